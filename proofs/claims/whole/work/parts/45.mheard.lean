/-! the reference: what is heard, and what is told of it -/
theorem MF_ext {S : Sc} {hp ht : Int → Int} {k : Nat} {M : ra_M} {p t : Int} (h : MF S hp ht k M) : MF S (fU hp (k : Nat) p) (fU ht (k : Nat) t) k M := by
  have h1 : FVP S (fU hp (k : Nat) p) k = FVP S hp k := FVP_hp k (fun x hx => fU_ne _ _ (by omega))
  have h2 : AN S (fU hp (k : Nat) p) k = AN S hp k := AN_hp k (fun x hx => fU_ne _ _ (by omega))
  unfold MF
  rw [h1, h2]
  refine ⟨h.1, h.2.1, h.2.2.1, fun i q hi => ?_⟩
  have h3 := h.2.2.2 i q hi
  have h4 := (okAN S hp k).1 i q hi
  rw [fU_ne _ _ (by omega)]
  exact h3

set_option maxRecDepth 20000 in
set_option maxHeartbeats 2000000 in
theorem xm_hear (d t : Nat) (M : ra_M) (S : Sc) (k : Nat) (hp ht : Int → Int) (ses : Int) (bx du : Int → Int) (al : Al8) (hI : IM S (k : Nat) hp ht ses bx du al M) (hw : WF t S (k : Nat) hp ht ses bx al) (p t9 : Int) : Ex (d + 4) m_X8_hear [vR 32, vI p, vI t9] M (PM M (aHear S (k : Nat) hp ht ses bx du al p t9)) := by
  refine Ex_call (Nat.le_of_ble_eq_true rfl) (fun K hK => ?_)
  show K 0 [some (vR 32), some (vI p), some (vI t9)] [] M
  have hK : ra_Clo _ m_X8_hear cX8_hear _ K := hK
  have hI0 := hI
  obtain ⟨hs, ⟨g14, g40, g41⟩, ⟨g15, g35, g36⟩, hF, hL⟩ := hI
  obtain ⟨hS, hc, hnn, hh, hse, hbx, hal⟩ := hw
  obtain ⟨e5, e6, e7, e8, e9⟩ := scM_e hs
  obtain ⟨a2, a3, a4, a5, a6⟩ := scM_a hs
  have hs0 := hS.1
  have hs1 := hS.2.1
  have hs2 := hS.2.2.1
  have hlt : (if ((k : Nat) : Int) = 0 then 0 else ht (((k : Nat) : Int) - 1)) = (if M 32 14 = 0 then 0 else M 41 (M 32 14 - 1)) := by rw [g14, g41]
  refine k_aln hK (q := 1)  dX8_hear_0 rfl (z := 32) rfl (k_ic hK (q := 2)  dX8_hear_1 rfl (by decide) (k_pI hK (q := 5) (M2 := up M 32 34 0) dX8_hear_2 rfl rp_X8_83 rfl rfl rfl (k_iln hK (q := 6)  dX8_hear_5 rfl (z := p) rfl ?_)))
  refine k_iflt hK (q := 9) (t := 47) dX8_hear_6 rfl rfl (fun h6 => ?_) (fun h6 => ?_)
  · refine k_bp hK (q := 49)  dX8_hear_47 rfl (by decide) ?_
    refine k_ir hK dX8_hear_49 rfl ?_
    refine PM_same (c := -2) ?_ hI0
    unfold aHear
    rw [if_pos (by intro q; have q3 := q.2.2; rw [hlt] at q3; omega)]
  · refine k_iln hK (q := 10)  dX8_hear_9 rfl (z := p) rfl (k_bp hK (q := 12)  dX8_hear_10 rfl (by decide) ?_)
    refine k_cgt hK (q := 15) (t := 47) dX8_hear_12 rfl rfl (fun h12 => ?_) (fun h12 => ?_)
    · refine k_bp hK (q := 49)  dX8_hear_47 rfl (by decide) ?_
      refine k_ir hK dX8_hear_49 rfl ?_
      refine PM_same (c := -2) ?_ hI0
      unfold aHear
      rw [if_pos (by intro q; have q3 := q.2.2; rw [hlt] at q3; omega)]
    · refine k_iln hK (q := 16)  dX8_hear_15 rfl (z := t9) rfl ?_
      refine k_iflt hK (q := 19) (t := 47) dX8_hear_16 rfl rfl (fun h16 => ?_) (fun h16 => ?_)
      · refine k_bp hK (q := 49)  dX8_hear_47 rfl (by decide) ?_
        refine k_ir hK dX8_hear_49 rfl ?_
        refine PM_same (c := -2) ?_ hI0
        unfold aHear
        rw [if_pos (by intro q; have q3 := q.2.2; rw [hlt] at q3; omega)]
      · refine k_iln hK (q := 20)  dX8_hear_19 rfl (z := t9) rfl (k_ldc hK (q := 22)  dX8_hear_20 rfl rc_X8_153 ?_)
        refine k_cgt hK (q := 25) (t := 47) dX8_hear_22 rfl rfl (fun h22 => ?_) (fun h22 => ?_)
        · refine k_bp hK (q := 49)  dX8_hear_47 rfl (by decide) ?_
          refine k_ir hK dX8_hear_49 rfl ?_
          refine PM_same (c := -2) ?_ hI0
          unfold aHear
          rw [if_pos (by intro q; have q3 := q.2.2; rw [hlt] at q3; omega)]
        · refine k_aln hK (q := 26)  dX8_hear_25 rfl (z := 32) rfl (k_gI hK (q := 29) (z := M 32 14) 0 dX8_hear_26 rfl rf_X8_101 rfl rfl rfl rfl ?_)
          refine k_ifle hK (q := 32) (t := 50) dX8_hear_29 rfl rfl (fun h29 => ?_) (fun h29 => ?_)
          · refine k_aln hK (q := 51)  dX8_hear_50 rfl (z := 32) rfl (k_gI hK (q := 54) (z := M 32 4) 0 dX8_hear_51 rfl rf_X8_86 rfl rfl rfl rfl ?_)
            refine k_ifne hK (q := 57) (t := 60) dX8_hear_54 rfl rfl (fun h54 => ?_) (fun h54 => ?_)
            · refine k_aln hK (q := 61)  dX8_hear_60 rfl (z := 32) rfl (k_gI hK (q := 64) (z := M 32 14) 0 dX8_hear_61 rfl rf_X8_101 rfl rfl rfl rfl (k_bp hK (q := 66)  dX8_hear_64 rfl (by decide) ?_))
              refine k_cne hK (q := 69) (t := 72) dX8_hear_66 rfl rfl (fun h66 => ?_) (fun h66 => ?_)
              · refine k_aln hK (q := 73)  dX8_hear_72 rfl (z := 32) rfl (k_gR hK (q := 76) (r := 40) dX8_hear_73 rfl rf_X8_38 rfl rfl (k_aln hK (q := 77)  dX8_hear_76 rfl (z := 32) rfl (k_gI hK (q := 80) (z := M 32 14) 0 dX8_hear_77 rfl rf_X8_101 rfl rfl rfl rfl (k_iln hK (q := 81)  dX8_hear_80 rfl (z := p) rfl (k_ast hK (q := 82)  dX8_hear_81 rfl rfl (by omega) ?_)))))
                refine k_aln hK (q := 83)  dX8_hear_82 rfl (z := 32) rfl (k_gR hK (q := 86) (r := 41) dX8_hear_83 rfl rf_X8_41 rfl rfl (k_aln hK (q := 87)  dX8_hear_86 rfl (z := 32) rfl (k_gI hK (q := 90) (z := M 32 14) 0 dX8_hear_87 rfl rf_X8_101 rfl rfl rfl rfl (k_iln hK (q := 91)  dX8_hear_90 rfl (z := t9) rfl (k_ast hK (q := 92)  dX8_hear_91 rfl rfl (by omega) ?_)))))
                refine k_aln hK (q := 93)  dX8_hear_92 rfl (z := 32) rfl (k_dup hK (q := 94)  dX8_hear_93 rfl rfl (k_gI hK (q := 97) (z := M 32 14) 0 dX8_hear_94 rfl rf_X8_101 rfl rfl rfl rfl (k_ic hK (q := 98)  dX8_hear_97 rfl (by decide) (k_add hK (q := 99)  dX8_hear_98 rfl (z := (M 32 14) + 1) rfl (by omega) (k_pI hK (q := 102) (M2 := up (up (up (up M 32 34 0) 40 (M 32 14) p) 41 (M 32 14) t9) 32 14 ((M 32 14) + 1)) dX8_hear_99 rfl rp_X8_101 rfl rfl rfl ?_)))))
                refine k_aln hK (q := 103)  dX8_hear_102 rfl (z := 32) rfl (k_ic hK (q := 104)  dX8_hear_103 rfl (by decide) (k_pZ hK (q := 107) (M2 := up (up (up (up (up M 32 34 0) 40 (M 32 14) p) 41 (M 32 14) t9) 32 14 ((M 32 14) + 1)) 32 27 0) dX8_hear_104 rfl rp_X8_104 rfl rfl (by decide) rfl (k_aln hK (q := 108)  dX8_hear_107 rfl (z := 32) rfl (k_aln hK (q := 109)  dX8_hear_108 rfl (z := 32) rfl (k_gI hK (q := 112) (z := (M 32 14) + 1) 0 dX8_hear_109 rfl rf_X8_101 rfl rfl rfl rfl ?_)))))
                refine k_ic hK (q := 113)  dX8_hear_112 rfl (by decide) (k_sub hK (q := 114)  dX8_hear_113 rfl (z := ((M 32 14) + 1) - 1) rfl (by omega) ?_)
                rw [show M 32 14 + 1 - 1 = ((k : Nat) : Int) by omega]
                have hs9 : scM (up (up (up (up (up M 32 34 0) 40 (M 32 14) p) 41 (M 32 14) t9) 32 14 ((M 32 14) + 1)) 32 27 0) = S := by rw [scM_o2 _ _ _ (by decide), scM_o2 _ _ _ (by decide), scM_o _ _ _ (by omega), scM_o _ _ _ (by omega), scM_o2 _ _ _ (by decide)]; exact hs
                have h149 : (up (up (up (up (up M 32 34 0) 40 (M 32 14) p) 41 (M 32 14) t9) 32 14 ((M 32 14) + 1)) 32 27 0) 32 14 = (k : Nat) + 1 := by simp [up]; omega
                have h409 : (up (up (up (up (up M 32 34 0) 40 (M 32 14) p) 41 (M 32 14) t9) 32 14 ((M 32 14) + 1)) 32 27 0) 40 = fU hp (k : Nat) p := by rw [up_k _ _ _ (by decide), up_k _ _ _ (by decide), up_k _ _ _ (by decide), up_fU, g14, up_k _ _ _ (by decide), g40]
                have h419 : (up (up (up (up (up M 32 34 0) 40 (M 32 14) p) 41 (M 32 14) t9) 32 14 ((M 32 14) + 1)) 32 27 0) 41 = fU ht (k : Nat) t9 := by rw [up_k _ _ _ (by decide), up_k _ _ _ (by decide), up_fU, g14, up_k _ _ _ (by decide), up_k _ _ _ (by decide), g41]
                have hM9 : MF S hp ht k (up (up (up (up (up M 32 34 0) 40 (M 32 14) p) 41 (M 32 14) t9) 32 14 ((M 32 14) + 1)) 32 27 0) := MF_f hF (by simp only [up_k _ _ _ (show (42 : Nat) ≠ 32 by decide), up_k _ _ _ (show (42 : Nat) ≠ 40 by decide), up_k _ _ _ (show (42 : Nat) ≠ 41 by decide)]) (by simp [up]) (by simp [up]) (by simp only [up_k _ _ _ (show (45 : Nat) ≠ 32 by decide), up_k _ _ _ (show (45 : Nat) ≠ 40 by decide), up_k _ _ _ (show (45 : Nat) ≠ 41 by decide)]) (by simp only [up_k _ _ _ (show (46 : Nat) ≠ 32 by decide), up_k _ _ _ (show (46 : Nat) ≠ 40 by decide), up_k _ _ _ (show (46 : Nat) ≠ 41 by decide)])
                refine k_iv1 hK (q := 117) dX8_hear_114 rfl rm_X8_130 rfl rfl (Nat.le_of_ble_eq_true rfl) (xm_further _ (up (up (up (up (up M 32 34 0) 40 (M 32 14) p) 41 (M 32 14) t9) 32 14 ((M 32 14) + 1)) 32 27 0) k S hs9 hS (by omega) (fU hp (k : Nat) p) (fU ht (k : Nat) t9) (by omega) h409 h419 (MF_ext hM9)) (fun r9 M5 h9 => ?_)
                obtain ⟨rfl, hM5, f5⟩ := h9
                show K 117 [some (vR 32), some (vI p), some (vI t9)] [] M5
                refine k_aln hK (q := 118)  dX8_hear_117 rfl (z := 32) rfl (k_gI hK (q := 121) (z := M5 32 19) 0 dX8_hear_118 rfl rf_X8_124 rfl rfl rfl rfl ?_)
                refine k_ir hK dX8_hear_121 rfl ?_
                rw [hM5.2.1]
                unfold aHear
                rw [if_neg (fun q => q ⟨by omega, by omega, by rw [hlt]; omega⟩), if_neg (by omega), if_neg (by omega)]
                refine ⟨rfl, ⟨by rw [scM_fr f5 (by decide) (by decide)]; exact hs9, ⟨by rw [f5.2 14 (by decide)]; exact h149, by rw [f5.1 40 (by decide) (by decide)]; exact h409, by rw [f5.1 41 (by decide) (by decide)]; exact h419⟩, ⟨by rw [f5.2 15 (by decide)]; simpa [up] using g15, by rw [f5.1 35 (by decide) (by decide)]; simp only [up_k _ _ _ (show (35 : Nat) ≠ 32 by decide), up_k _ _ _ (show (35 : Nat) ≠ 40 by decide), up_k _ _ _ (show (35 : Nat) ≠ 41 by decide)]; exact g35, by rw [f5.1 36 (by decide) (by decide)]; simp only [up_k _ _ _ (show (36 : Nat) ≠ 32 by decide), up_k _ _ _ (show (36 : Nat) ≠ 40 by decide), up_k _ _ _ (show (36 : Nat) ≠ 41 by decide)]; exact g36⟩, hM5, ?_⟩, fun x hx => ?_⟩
                · show (_ : Int) = 0
                  rw [f5.2 27 (by decide)]
                  simp [up]
                · rw [f5.1 x (by omega) (by simp; omega)]
                  simp only [up_k _ _ _ (show x ≠ 32 by omega), up_k _ _ _ (show x ≠ 40 by omega), up_k _ _ _ (show x ≠ 41 by omega)]
              · refine k_bp hK (q := 71)  dX8_hear_69 rfl (by decide) ?_
                refine k_ir hK dX8_hear_71 rfl ?_
                refine PM_same (c := -4) ?_ hI0
                unfold aHear
                rw [if_neg (fun q => q ⟨by omega, by omega, by rw [hlt]; omega⟩), if_neg (by omega), if_pos (by omega)]
            · refine k_bp hK (q := 59)  dX8_hear_57 rfl (by decide) ?_
              refine k_ir hK dX8_hear_59 rfl ?_
              refine PM_same (c := -3) ?_ hI0
              unfold aHear
              rw [if_neg (fun q => q ⟨by omega, by omega, by rw [hlt]; omega⟩), if_pos (by omega)]
          · refine k_iln hK (q := 33)  dX8_hear_32 rfl (z := t9) rfl (k_aln hK (q := 34)  dX8_hear_33 rfl (z := 32) rfl (k_gR hK (q := 37) (r := 41) dX8_hear_34 rfl rf_X8_41 rfl rfl (k_aln hK (q := 38)  dX8_hear_37 rfl (z := 32) rfl (k_gI hK (q := 41) (z := M 32 14) 0 dX8_hear_38 rfl rf_X8_101 rfl rfl rfl rfl (k_ic hK (q := 42)  dX8_hear_41 rfl (by decide) ?_)))))
            refine k_sub hK (q := 43)  dX8_hear_42 rfl (z := (M 32 14) - 1) rfl (by omega) (k_ald hK (q := 44)  dX8_hear_43 rfl (y := M 41 ((M 32 14) - 1)) rfl (by omega) rfl ?_)
            refine k_cge hK (q := 47) (t := 50) dX8_hear_44 rfl rfl (fun h44 => ?_) (fun h44 => ?_)
            · refine k_aln hK (q := 51)  dX8_hear_50 rfl (z := 32) rfl (k_gI hK (q := 54) (z := M 32 4) 0 dX8_hear_51 rfl rf_X8_86 rfl rfl rfl rfl ?_)
              refine k_ifne hK (q := 57) (t := 60) dX8_hear_54 rfl rfl (fun h54 => ?_) (fun h54 => ?_)
              · refine k_aln hK (q := 61)  dX8_hear_60 rfl (z := 32) rfl (k_gI hK (q := 64) (z := M 32 14) 0 dX8_hear_61 rfl rf_X8_101 rfl rfl rfl rfl (k_bp hK (q := 66)  dX8_hear_64 rfl (by decide) ?_))
                refine k_cne hK (q := 69) (t := 72) dX8_hear_66 rfl rfl (fun h66 => ?_) (fun h66 => ?_)
                · refine k_aln hK (q := 73)  dX8_hear_72 rfl (z := 32) rfl (k_gR hK (q := 76) (r := 40) dX8_hear_73 rfl rf_X8_38 rfl rfl (k_aln hK (q := 77)  dX8_hear_76 rfl (z := 32) rfl (k_gI hK (q := 80) (z := M 32 14) 0 dX8_hear_77 rfl rf_X8_101 rfl rfl rfl rfl (k_iln hK (q := 81)  dX8_hear_80 rfl (z := p) rfl (k_ast hK (q := 82)  dX8_hear_81 rfl rfl (by omega) ?_)))))
                  refine k_aln hK (q := 83)  dX8_hear_82 rfl (z := 32) rfl (k_gR hK (q := 86) (r := 41) dX8_hear_83 rfl rf_X8_41 rfl rfl (k_aln hK (q := 87)  dX8_hear_86 rfl (z := 32) rfl (k_gI hK (q := 90) (z := M 32 14) 0 dX8_hear_87 rfl rf_X8_101 rfl rfl rfl rfl (k_iln hK (q := 91)  dX8_hear_90 rfl (z := t9) rfl (k_ast hK (q := 92)  dX8_hear_91 rfl rfl (by omega) ?_)))))
                  refine k_aln hK (q := 93)  dX8_hear_92 rfl (z := 32) rfl (k_dup hK (q := 94)  dX8_hear_93 rfl rfl (k_gI hK (q := 97) (z := M 32 14) 0 dX8_hear_94 rfl rf_X8_101 rfl rfl rfl rfl (k_ic hK (q := 98)  dX8_hear_97 rfl (by decide) (k_add hK (q := 99)  dX8_hear_98 rfl (z := (M 32 14) + 1) rfl (by omega) (k_pI hK (q := 102) (M2 := up (up (up (up M 32 34 0) 40 (M 32 14) p) 41 (M 32 14) t9) 32 14 ((M 32 14) + 1)) dX8_hear_99 rfl rp_X8_101 rfl rfl rfl ?_)))))
                  refine k_aln hK (q := 103)  dX8_hear_102 rfl (z := 32) rfl (k_ic hK (q := 104)  dX8_hear_103 rfl (by decide) (k_pZ hK (q := 107) (M2 := up (up (up (up (up M 32 34 0) 40 (M 32 14) p) 41 (M 32 14) t9) 32 14 ((M 32 14) + 1)) 32 27 0) dX8_hear_104 rfl rp_X8_104 rfl rfl (by decide) rfl (k_aln hK (q := 108)  dX8_hear_107 rfl (z := 32) rfl (k_aln hK (q := 109)  dX8_hear_108 rfl (z := 32) rfl (k_gI hK (q := 112) (z := (M 32 14) + 1) 0 dX8_hear_109 rfl rf_X8_101 rfl rfl rfl rfl ?_)))))
                  refine k_ic hK (q := 113)  dX8_hear_112 rfl (by decide) (k_sub hK (q := 114)  dX8_hear_113 rfl (z := ((M 32 14) + 1) - 1) rfl (by omega) ?_)
                  rw [show M 32 14 + 1 - 1 = ((k : Nat) : Int) by omega]
                  have hs9 : scM (up (up (up (up (up M 32 34 0) 40 (M 32 14) p) 41 (M 32 14) t9) 32 14 ((M 32 14) + 1)) 32 27 0) = S := by rw [scM_o2 _ _ _ (by decide), scM_o2 _ _ _ (by decide), scM_o _ _ _ (by omega), scM_o _ _ _ (by omega), scM_o2 _ _ _ (by decide)]; exact hs
                  have h149 : (up (up (up (up (up M 32 34 0) 40 (M 32 14) p) 41 (M 32 14) t9) 32 14 ((M 32 14) + 1)) 32 27 0) 32 14 = (k : Nat) + 1 := by simp [up]; omega
                  have h409 : (up (up (up (up (up M 32 34 0) 40 (M 32 14) p) 41 (M 32 14) t9) 32 14 ((M 32 14) + 1)) 32 27 0) 40 = fU hp (k : Nat) p := by rw [up_k _ _ _ (by decide), up_k _ _ _ (by decide), up_k _ _ _ (by decide), up_fU, g14, up_k _ _ _ (by decide), g40]
                  have h419 : (up (up (up (up (up M 32 34 0) 40 (M 32 14) p) 41 (M 32 14) t9) 32 14 ((M 32 14) + 1)) 32 27 0) 41 = fU ht (k : Nat) t9 := by rw [up_k _ _ _ (by decide), up_k _ _ _ (by decide), up_fU, g14, up_k _ _ _ (by decide), up_k _ _ _ (by decide), g41]
                  have hM9 : MF S hp ht k (up (up (up (up (up M 32 34 0) 40 (M 32 14) p) 41 (M 32 14) t9) 32 14 ((M 32 14) + 1)) 32 27 0) := MF_f hF (by simp only [up_k _ _ _ (show (42 : Nat) ≠ 32 by decide), up_k _ _ _ (show (42 : Nat) ≠ 40 by decide), up_k _ _ _ (show (42 : Nat) ≠ 41 by decide)]) (by simp [up]) (by simp [up]) (by simp only [up_k _ _ _ (show (45 : Nat) ≠ 32 by decide), up_k _ _ _ (show (45 : Nat) ≠ 40 by decide), up_k _ _ _ (show (45 : Nat) ≠ 41 by decide)]) (by simp only [up_k _ _ _ (show (46 : Nat) ≠ 32 by decide), up_k _ _ _ (show (46 : Nat) ≠ 40 by decide), up_k _ _ _ (show (46 : Nat) ≠ 41 by decide)])
                  refine k_iv1 hK (q := 117) dX8_hear_114 rfl rm_X8_130 rfl rfl (Nat.le_of_ble_eq_true rfl) (xm_further _ (up (up (up (up (up M 32 34 0) 40 (M 32 14) p) 41 (M 32 14) t9) 32 14 ((M 32 14) + 1)) 32 27 0) k S hs9 hS (by omega) (fU hp (k : Nat) p) (fU ht (k : Nat) t9) (by omega) h409 h419 (MF_ext hM9)) (fun r9 M5 h9 => ?_)
                  obtain ⟨rfl, hM5, f5⟩ := h9
                  show K 117 [some (vR 32), some (vI p), some (vI t9)] [] M5
                  refine k_aln hK (q := 118)  dX8_hear_117 rfl (z := 32) rfl (k_gI hK (q := 121) (z := M5 32 19) 0 dX8_hear_118 rfl rf_X8_124 rfl rfl rfl rfl ?_)
                  refine k_ir hK dX8_hear_121 rfl ?_
                  rw [hM5.2.1]
                  unfold aHear
                  rw [if_neg (fun q => q ⟨by omega, by omega, by rw [hlt]; omega⟩), if_neg (by omega), if_neg (by omega)]
                  refine ⟨rfl, ⟨by rw [scM_fr f5 (by decide) (by decide)]; exact hs9, ⟨by rw [f5.2 14 (by decide)]; exact h149, by rw [f5.1 40 (by decide) (by decide)]; exact h409, by rw [f5.1 41 (by decide) (by decide)]; exact h419⟩, ⟨by rw [f5.2 15 (by decide)]; simpa [up] using g15, by rw [f5.1 35 (by decide) (by decide)]; simp only [up_k _ _ _ (show (35 : Nat) ≠ 32 by decide), up_k _ _ _ (show (35 : Nat) ≠ 40 by decide), up_k _ _ _ (show (35 : Nat) ≠ 41 by decide)]; exact g35, by rw [f5.1 36 (by decide) (by decide)]; simp only [up_k _ _ _ (show (36 : Nat) ≠ 32 by decide), up_k _ _ _ (show (36 : Nat) ≠ 40 by decide), up_k _ _ _ (show (36 : Nat) ≠ 41 by decide)]; exact g36⟩, hM5, ?_⟩, fun x hx => ?_⟩
                  · show (_ : Int) = 0
                    rw [f5.2 27 (by decide)]
                    simp [up]
                  · rw [f5.1 x (by omega) (by simp; omega)]
                    simp only [up_k _ _ _ (show x ≠ 32 by omega), up_k _ _ _ (show x ≠ 40 by omega), up_k _ _ _ (show x ≠ 41 by omega)]
                · refine k_bp hK (q := 71)  dX8_hear_69 rfl (by decide) ?_
                  refine k_ir hK dX8_hear_71 rfl ?_
                  refine PM_same (c := -4) ?_ hI0
                  unfold aHear
                  rw [if_neg (fun q => q ⟨by omega, by omega, by rw [hlt]; omega⟩), if_neg (by omega), if_pos (by omega)]
              · refine k_bp hK (q := 59)  dX8_hear_57 rfl (by decide) ?_
                refine k_ir hK dX8_hear_59 rfl ?_
                refine PM_same (c := -3) ?_ hI0
                unfold aHear
                rw [if_neg (fun q => q ⟨by omega, by omega, by rw [hlt]; omega⟩), if_pos (by omega)]
            · refine k_bp hK (q := 49)  dX8_hear_47 rfl (by decide) ?_
              refine k_ir hK dX8_hear_49 rfl ?_
              refine PM_same (c := -2) ?_ hI0
              unfold aHear
              rw [if_pos (by intro q; have q3 := q.2.2; rw [hlt] at q3; omega)]

set_option maxRecDepth 20000 in
set_option maxHeartbeats 2000000 in
theorem xm_cut (d t : Nat) (M : ra_M) (S : Sc) (cnt : Int) (hp ht : Int → Int) (ses : Int) (bx du : Int → Int) (al : Al8) (hI : IM S cnt hp ht ses bx du al M) (hw : WF t S cnt hp ht ses bx al) (n9 : Int) : Ex (d + 5) m_X8_cut [vR 32, vI n9] M (PM M (aCut S cnt hp ht ses bx du al n9)) := by
  refine Ex_call (Nat.le_of_ble_eq_true rfl) (fun K hK => ?_)
  show K 0 [some (vR 32), some (vI n9)] [] M
  have hK : ra_Clo _ m_X8_cut cX8_cut _ K := hK
  have hI0 := hI
  obtain ⟨hs, ⟨g14, g40, g41⟩, ⟨g15, g35, g36⟩, hF, hL⟩ := hI
  obtain ⟨hS, hc, hnn, hh, hse, hbx, hal⟩ := hw
  obtain ⟨e5, e6, e7, e8, e9⟩ := scM_e hs
  obtain ⟨a2, a3, a4, a5, a6⟩ := scM_a hs
  have hs0 := hS.1
  have hs1 := hS.2.1
  have hs2 := hS.2.2.1
  refine k_aln hK (q := 1)  dX8_cut_0 rfl (z := 32) rfl (k_ic hK (q := 2)  dX8_cut_1 rfl (by decide) (k_pI hK (q := 5) (M2 := up M 32 34 0) dX8_cut_2 rfl rp_X8_83 rfl rfl rfl (k_iln hK (q := 6)  dX8_cut_5 rfl (z := n9) rfl ?_)))
  refine k_iflt hK (q := 9) (t := 17) dX8_cut_6 rfl rfl (fun h6 => ?_) (fun h6 => ?_)
  · refine k_bp hK (q := 19)  dX8_cut_17 rfl (by decide) ?_
    refine k_ir hK dX8_cut_19 rfl ?_
    refine PM_same (c := -2) ?_ hI0
    unfold aCut
    rw [if_pos (by omega)]
  · refine k_iln hK (q := 10)  dX8_cut_9 rfl (z := n9) rfl (k_aln hK (q := 11)  dX8_cut_10 rfl (z := 32) rfl (k_gI hK (q := 14) (z := M 32 14) 0 dX8_cut_11 rfl rf_X8_101 rfl rfl rfl rfl ?_))
    refine k_cle hK (q := 17) (t := 20) dX8_cut_14 rfl rfl (fun h14 => ?_) (fun h14 => ?_)
    · refine k_aln hK (q := 21)  dX8_cut_20 rfl (z := 32) rfl (k_iln hK (q := 22)  dX8_cut_21 rfl (z := n9) rfl (k_pI hK (q := 25) (M2 := up (up M 32 34 0) 32 14 n9) dX8_cut_22 rfl rp_X8_101 rfl rfl rfl (k_aln hK (q := 26)  dX8_cut_25 rfl (z := 32) rfl (k_ic hK (q := 27)  dX8_cut_26 rfl (by decide) (k_pZ hK (q := 30) (M2 := up (up (up M 32 34 0) 32 14 n9) 32 27 0) dX8_cut_27 rfl rp_X8_104 rfl rfl (by decide) rfl ?_)))))
      obtain ⟨m, hm⟩ : ∃ m : Nat, n9 = (m : Nat) := ⟨n9.toNat, by omega⟩
      subst hm
      have hs9 : scM (up (up (up M 32 34 0) 32 14 (m : Nat)) 32 27 0) = S := by rw [scM_o2 _ _ _ (by decide), scM_o2 _ _ _ (by decide), scM_o2 _ _ _ (by decide)]; exact hs
      refine k_aln hK (q := 31)  dX8_cut_30 rfl (z := 32) rfl ?_
      refine k_iv0 hK (q := 34) dX8_cut_31 rfl rm_X8_108 rfl rfl (Nat.le_of_ble_eq_true rfl) (xm_follow _ (up (up (up M 32 34 0) 32 14 (m : Nat)) 32 27 0) m S hs9 hS hp ht (by omega) (fun q => hnn (by omega)) (by simp [up]) (by simp only [up_k _ _ _ (show (40 : Nat) ≠ 32 by decide)]; exact g40) (by simp only [up_k _ _ _ (show (41 : Nat) ≠ 32 by decide)]; exact g41)) (fun r9 M5 h9 => ?_)
      obtain ⟨rfl, hM5, f5⟩ := h9
      show K 34 [some (vR 32), some (vI (m : Nat))] [] M5
      refine k_aln hK (q := 35)  dX8_cut_34 rfl (z := 32) rfl (k_gI hK (q := 38) (z := M5 32 19) 0 dX8_cut_35 rfl rf_X8_124 rfl rfl rfl rfl ?_)
      refine k_ir hK dX8_cut_38 rfl ?_
      rw [hM5.2.1]
      unfold aCut
      rw [if_neg (by omega)]
      refine ⟨rfl, ⟨by rw [scM_fr f5 (by decide) (by decide)]; exact hs9, ⟨by rw [f5.2 14 (by decide)]; simp [up], by rw [f5.1 40 (by decide) (by decide)]; simp only [up_k _ _ _ (show (40 : Nat) ≠ 32 by decide)]; exact g40, by rw [f5.1 41 (by decide) (by decide)]; simp only [up_k _ _ _ (show (41 : Nat) ≠ 32 by decide)]; exact g41⟩, ⟨by rw [f5.2 15 (by decide)]; simpa [up] using g15, by rw [f5.1 35 (by decide) (by decide)]; simp only [up_k _ _ _ (show (35 : Nat) ≠ 32 by decide)]; exact g35, by rw [f5.1 36 (by decide) (by decide)]; simp only [up_k _ _ _ (show (36 : Nat) ≠ 32 by decide)]; exact g36⟩, hM5, ?_⟩, fun x hx => ?_⟩
      · show (_ : Int) = 0
        rw [f5.2 27 (by decide)]
        simp [up]
      · rw [f5.1 x (by omega) (by simp; omega)]
        simp only [up_k _ _ _ (show x ≠ 32 by omega)]
    · refine k_bp hK (q := 19)  dX8_cut_17 rfl (by decide) ?_
      refine k_ir hK dX8_cut_19 rfl ?_
      refine PM_same (c := -2) ?_ hI0
      unfold aCut
      rw [if_pos (by omega)]

set_option maxRecDepth 20000 in
set_option maxHeartbeats 2000000 in
theorem xm_valueOf (d t : Nat) (M : ra_M) (S : Sc) (cnt : Int) (hp ht : Int → Int) (ses : Int) (bx du : Int → Int) (al : Al8) (hI : IM S cnt hp ht ses bx du al M) (hw : WF t S cnt hp ht ses bx al) (p : Int) : Ex d m_X8_valueOf [vR 32, vI p] M (PQ S cnt hp ht ses bx du al (aVal S cnt hp p) M) := by
  refine Ex_leaf (Nat.le_of_ble_eq_true rfl) (fun C K hK => ?_)
  show K 0 [some (vR 32), some (vI p)] [] M
  have hK : ra_Clo _ m_X8_valueOf cX8_valueOf _ K := hK
  have hI0 := hI
  obtain ⟨hs, ⟨g14, g40, g41⟩, ⟨g15, g35, g36⟩, hF, hL⟩ := hI
  obtain ⟨hS, hc, hnn, hh, hse, hbx, hal⟩ := hw
  obtain ⟨e5, e6, e7, e8, e9⟩ := scM_e hs
  obtain ⟨a2, a3, a4, a5, a6⟩ := scM_a hs
  have hs0 := hS.1
  have hs1 := hS.2.1
  have hs2 := hS.2.2.1
  have hNV : NV = 1000000000 := rfl
  have hv : -1 ≤ p → p < S 0 0 → M 42 (p + 1) = (FVP S hp cnt.toNat).1 (p + 1) := fun a b => hF.1 _ (by omega) (by omega)
  refine k_aln hK (q := 1)  dX8_valueOf_0 rfl (z := 32) rfl (k_ic hK (q := 2)  dX8_valueOf_1 rfl (by decide) (k_pI hK (q := 5) (M2 := up M 32 34 0) dX8_valueOf_2 rfl rp_X8_83 rfl rfl rfl (k_iln hK (q := 6)  dX8_valueOf_5 rfl (z := p) rfl (k_ic hK (q := 7)  dX8_valueOf_6 rfl (by decide) ?_))))
  refine k_clt hK (q := 10) (t := 18) dX8_valueOf_7 rfl rfl (fun h7 => ?_) (fun h7 => ?_)
  · refine k_bp hK (q := 20)  dX8_valueOf_18 rfl (by decide) ?_
    refine k_ir hK dX8_valueOf_20 rfl ?_
    refine PQ_same ?_ hI0
    unfold aVal
    rw [if_pos (by omega)]
  · refine k_iln hK (q := 11)  dX8_valueOf_10 rfl (z := p) rfl (k_aln hK (q := 12)  dX8_valueOf_11 rfl (z := 32) rfl (k_gI hK (q := 15) (z := M 32 4) 0 dX8_valueOf_12 rfl rf_X8_86 rfl rfl rfl rfl ?_))
    refine k_clt hK (q := 18) (t := 21) dX8_valueOf_15 rfl rfl (fun h15 => ?_) (fun h15 => ?_)
    · refine k_aln hK (q := 22)  dX8_valueOf_21 rfl (z := 32) rfl (k_gR hK (q := 25) (r := 42) dX8_valueOf_22 rfl rf_X8_44 rfl rfl (k_iln hK (q := 26)  dX8_valueOf_25 rfl (z := p) rfl (k_ic hK (q := 27)  dX8_valueOf_26 rfl (by decide) (k_add hK (q := 28)  dX8_valueOf_27 rfl (z := p + 1) rfl (by omega) (k_ald hK (q := 29)  dX8_valueOf_28 rfl (y := M 42 (p + 1)) rfl (by omega) rfl ?_)))))
      refine k_ldc hK (q := 31)  dX8_valueOf_29 rfl rc_X8_123 ?_
      refine k_cge hK (q := 34) (t := 45) dX8_valueOf_31 rfl rfl (fun h31 => ?_) (fun h31 => ?_)
      · refine k_ic hK (q := 46)  dX8_valueOf_45 rfl (by decide) ?_
        refine k_ir hK dX8_valueOf_46 rfl ?_
        refine PQ_same ?_ hI0
        unfold aVal
        rw [if_neg (by omega), ← hv (by omega) (by omega), if_pos (by omega)]
      · refine k_aln hK (q := 35)  dX8_valueOf_34 rfl (z := 32) rfl (k_gR hK (q := 38) (r := 42) dX8_valueOf_35 rfl rf_X8_44 rfl rfl (k_iln hK (q := 39)  dX8_valueOf_38 rfl (z := p) rfl (k_ic hK (q := 40)  dX8_valueOf_39 rfl (by decide) (k_add hK (q := 41)  dX8_valueOf_40 rfl (z := p + 1) rfl (by omega) (k_ald hK (q := 42)  dX8_valueOf_41 rfl (y := M 42 (p + 1)) rfl (by omega) rfl ?_)))))
        refine k_goto hK (t := 46) dX8_valueOf_42 rfl ?_
        refine k_ir hK dX8_valueOf_46 rfl ?_
        refine PQ_same ?_ hI0
        unfold aVal
        rw [if_neg (by omega), ← hv (by omega) (by omega), if_neg (by omega)]
    · refine k_bp hK (q := 20)  dX8_valueOf_18 rfl (by decide) ?_
      refine k_ir hK dX8_valueOf_20 rfl ?_
      refine PQ_same ?_ hI0
      unfold aVal
      rw [if_pos (by omega)]

set_option maxRecDepth 20000 in
set_option maxHeartbeats 2000000 in
theorem cm_loop {C : Nat → List ra_V → ra_M → (Option ra_V → ra_M → Prop) → Prop} {Q : Option ra_V → ra_M → Prop} {K : Nat → ra_L → List ra_V → ra_M → Prop} (hK : ra_Clo C m_X8_common cX8_common Q K) {M : ra_M} {a b : Int} {g : Nat} (hQ0 : Q (some (vI (g : Nat))) M) :
    ∀ (n x y : Nat), y ≤ n → x < 100000000 ∧ y < 100000000 → g = Nat.gcd x y → K 4 [some (vI a), some (vI b), some (vI (x : Nat)), some (vI (y : Nat)), none] [] M := by
  intro n
  induction n with
  | zero =>
    intro x y hr hxy hg
    have hQ : g = x → Q (some (vI (x : Nat))) M := fun q => q ▸ hQ0
    refine k_iln hK (q := 5)  dX8_common_4 rfl (z := (y : Nat)) rfl ?_
    refine k_ifeq hK (q := 8) (t := 21) dX8_common_5 rfl rfl (fun h5 => ?_) (fun h5 => ?_)
    · have hy : y = 0 := by omega
      subst hy
      refine k_iln hK (q := 22)  dX8_common_21 rfl (z := (x : Nat)) rfl ?_
      refine k_ir hK dX8_common_22 rfl ?_
      exact hQ (by rw [hg]; simp)
    · exact absurd h5 (by omega)
  | succ n ih =>
    intro x y hr hxy hg
    have hQ : g = x → Q (some (vI (x : Nat))) M := fun q => q ▸ hQ0
    have hmod : Int.tmod (x : Nat) (y : Nat) = ((x % y : Nat) : Int) := rfl
    refine k_iln hK (q := 5)  dX8_common_4 rfl (z := (y : Nat)) rfl ?_
    refine k_ifeq hK (q := 8) (t := 21) dX8_common_5 rfl rfl (fun h5 => ?_) (fun h5 => ?_)
    · have hy : y = 0 := by omega
      subst hy
      refine k_iln hK (q := 22)  dX8_common_21 rfl (z := (x : Nat)) rfl ?_
      refine k_ir hK dX8_common_22 rfl ?_
      exact hQ (by rw [hg]; simp)
    · refine k_iln hK (q := 9)  dX8_common_8 rfl (z := (x : Nat)) rfl (k_iln hK (q := 10)  dX8_common_9 rfl (z := (y : Nat)) rfl (k_rem hK (q := 11)  dX8_common_10 rfl (z := Int.tmod (x : Nat) (y : Nat)) (by omega) rfl (by rw [hmod]; have := Nat.mod_lt x (show 0 < y by omega); omega) ?_))
      rw [hmod]
      refine k_is hK (q := 13)  dX8_common_11 rfl (L2 := [some (vI a), some (vI b), some (vI (x : Nat)), some (vI (y : Nat)), some (vI ((x % y : Nat) : Int))]) (Nat.le_of_ble_eq_true rfl) rfl (k_iln hK (q := 14)  dX8_common_13 rfl (z := (y : Nat)) rfl (k_isn hK (q := 15)  dX8_common_14 rfl (L2 := [some (vI a), some (vI b), some (vI (y : Nat)), some (vI (y : Nat)), some (vI ((x % y : Nat) : Int))]) (Nat.le_of_ble_eq_true rfl) rfl (k_il hK (q := 17)  dX8_common_15 rfl (z := ((x % y : Nat) : Int)) rfl (k_isn hK (q := 18)  dX8_common_17 rfl (L2 := [some (vI a), some (vI b), some (vI (y : Nat)), some (vI ((x % y : Nat) : Int)), some (vI ((x % y : Nat) : Int))]) (Nat.le_of_ble_eq_true rfl) rfl (k_goto hK (t := 4) dX8_common_18 rfl ?_)))))
      refine k_weak hK (L2 := [some (vI a), some (vI b), some (vI (y : Nat)), some (vI ((x % y : Nat) : Int)), none]) ⟨Or.inl rfl, Or.inl rfl, Or.inl rfl, Or.inl rfl, Or.inr rfl, trivial⟩ ?_
      have hml := Nat.mod_lt x (show 0 < y by omega)
      exact ih y (x % y) (by omega) (by omega) (by rw [hg, cd_rec])

set_option maxRecDepth 20000 in
set_option maxHeartbeats 2000000 in
theorem xm_common (d : Nat) (M : ra_M) (a b : Int) (ha : 0 ≤ a ∧ a < 100000000) (hb : 0 ≤ b ∧ b < 100000000) : Ex d m_X8_common [vI a, vI b] M (fun r M2 => r = some (vI (((Nat.gcd a.toNat b.toNat : Nat) : Int))) ∧ M2 = M) := by
  refine Ex_leaf (Nat.le_of_ble_eq_true rfl) (fun C K hK => ?_)
  show K 0 [some (vI a), some (vI b), none, none, none] [] M
  have hK : ra_Clo _ m_X8_common cX8_common _ K := hK
  refine k_iln hK (q := 1)  dX8_common_0 rfl (z := a) rfl (k_isn hK (q := 2)  dX8_common_1 rfl (L2 := [some (vI a), some (vI b), some (vI a), none, none]) (Nat.le_of_ble_eq_true rfl) rfl (k_iln hK (q := 3)  dX8_common_2 rfl (z := b) rfl (k_isn hK (q := 4)  dX8_common_3 rfl (L2 := [some (vI a), some (vI b), some (vI a), some (vI b), none]) (Nat.le_of_ble_eq_true rfl) rfl ?_)))
  have ea : a = (a.toNat : Nat) := by omega
  have eb : b = (b.toNat : Nat) := by omega
  have key := cm_loop hK (M := M) (a := a) (b := b) (g := Nat.gcd a.toNat b.toNat) ⟨rfl, rfl⟩ b.toNat a.toNat b.toNat (Nat.le_refl _) (by omega) rfl
  rw [← ea, ← eb] at key
  exact key

set_option maxRecDepth 20000 in
set_option maxHeartbeats 2000000 in
theorem xm_tempoOf (d : Nat) (M : ra_M) (side : Int) (S : Sc) (hs : scM M = S) (hS : okSc S) (ht : Int → Int) (an : An) (k : Int) (ha : AnM M ht an) (ho : okAn S k an) (hk : k ≤ 120) (hh : okH9 ht k) : Ex (d + 1) m_X8_tempoOf [vR 32, vI side] M (fun r M2 => r = some (vI (low (tgF ht an) (sgF S an) side)) ∧ M2 = M) := by
  refine Ex_call (Nat.le_of_ble_eq_true rfl) (fun K hK => ?_)
  show K 0 [some (vR 32), some (vI side), none, none, none, none] [] M
  have hK : ra_Clo _ m_X8_tempoOf cX8_tempoOf _ K := hK
  have hl := ha.1
  have hlen := okAn_len hS ho
  obtain ⟨a2, a3, a4, a5, a6⟩ := scM_a hs
  have hs0 := hS.1
  have htg := tg_in hh ho
  have hsg := sg_pos hS ho
  have hg1 : 1 ≤ ((Nat.gcd (tgF ht an).toNat (sgF S an).toNat : Nat) : Int) := by
    have := Nat.gcd_pos_of_pos_right (tgF ht an).toNat (show 0 < (sgF S an).toNat by omega)
    omega
  generalize hG : ((Nat.gcd (tgF ht an).toNat (sgF S an).toNat : Nat) : Int) = g at hg1
  have d1 : 0 ≤ (tgF ht an).tdiv g ∧ (tgF ht an).tdiv g ≤ tgF ht an := ⟨Int.tdiv_nonneg (by omega) (by omega), Int.tdiv_le_self g (by omega)⟩
  have d2 : 0 ≤ (sgF S an).tdiv g ∧ (sgF S an).tdiv g ≤ sgF S an := ⟨Int.tdiv_nonneg (by omega) (by omega), Int.tdiv_le_self g (by omega)⟩
  refine k_aln hK (q := 1)  dX8_tempoOf_0 rfl (z := 32) rfl (k_gI hK (q := 4) (z := M 32 22) 0 dX8_tempoOf_1 rfl rf_X8_127 rfl rfl rfl rfl (k_ic hK (q := 5)  dX8_tempoOf_4 rfl (by decide) ?_))
  refine k_cge hK (q := 8) (t := 10) dX8_tempoOf_5 rfl rfl (fun h5 => ?_) (fun h5 => ?_)
  · have h1 := an_get (an := an) (i := an.length - 1) (by omega)
    have h2 := an_get (an := an) (i := an.length - 4) (by omega)
    have x1 := ha.2 _ _ h1
    have x2 := ha.2 _ _ h2
    have o1 := ho.1 _ _ h1
    have o2 := ho.1 _ _ h2
    rw [show (((an.length - 1 : Nat) : Nat) : Int) = M 32 22 - 1 by omega] at x1 o1
    have t1 := hh.1 _ o1.1 o1.2.1
    have t2 := hh.1 _ o2.1 o2.2.1
    have s1 := (hS.2.2.2.2.1 _ (show 0 ≤ (an.getD (an.length - 1) (0, 0)).2 by omega) o1.2.2.2).2
    have s2 := (hS.2.2.2.2.1 _ (show 0 ≤ (an.getD (an.length - 4) (0, 0)).2 by omega) o2.2.2.2).2
    rw [← a3] at s1 s2
    have htgE : tgF ht an = ht (an.getD (an.length - 1) (0, 0)).1 - ht (an.getD (an.length - 4) (0, 0)).1 := by unfold tgF; rw [if_neg (by omega)]
    have hsgE : sgF S an = M 34 (an.getD (an.length - 1) (0, 0)).2 - M 34 (an.getD (an.length - 4) (0, 0)).2 := by unfold sgF; rw [if_neg (by omega), a3]
    refine k_aln hK (q := 11)  dX8_tempoOf_10 rfl (z := 32) rfl (k_gI hK (q := 14) (z := M 32 22) 0 dX8_tempoOf_11 rfl rf_X8_127 rfl rfl rfl rfl (k_ic hK (q := 15)  dX8_tempoOf_14 rfl (by decide) ?_))
    refine k_cle hK (q := 18) (t := 27) dX8_tempoOf_15 rfl rfl (fun h15 => ?_) (fun h15 => ?_)
    · rw [show (((an.length - 4 : Nat) : Nat) : Int) = 0 by omega] at x2 o2
      refine k_ic hK (q := 28)  dX8_tempoOf_27 rfl (by decide) (k_isn hK (q := 29)  dX8_tempoOf_28 rfl (L2 := [some (vR 32), some (vI side), some (vI 0), none, none, none]) (Nat.le_of_ble_eq_true rfl) rfl (k_aln hK (q := 30)  dX8_tempoOf_29 rfl (z := 32) rfl (k_gR hK (q := 33) (r := 46) dX8_tempoOf_30 rfl rf_X8_56 rfl rfl (k_aln hK (q := 34)  dX8_tempoOf_33 rfl (z := 32) rfl (k_gI hK (q := 37) (z := M 32 22) 0 dX8_tempoOf_34 rfl rf_X8_127 rfl rfl rfl rfl ?_)))))
      refine k_ic hK (q := 38)  dX8_tempoOf_37 rfl (by decide) (k_sub hK (q := 39)  dX8_tempoOf_38 rfl (z := (M 32 22) - 1) rfl (by omega) (k_ald hK (q := 40)  dX8_tempoOf_39 rfl (y := M 46 ((M 32 22) - 1)) rfl (by omega) rfl ?_))
      rw [x1.2]
      refine k_aln hK (q := 41)  dX8_tempoOf_40 rfl (z := 32) rfl (k_gR hK (q := 44) (r := 46) dX8_tempoOf_41 rfl rf_X8_56 rfl rfl (k_iln hK (q := 45)  dX8_tempoOf_44 rfl (z := 0) rfl (k_ald hK (q := 46)  dX8_tempoOf_45 rfl (y := M 46 0) rfl (by omega) rfl ?_)))
      rw [x2.2]
      refine k_sub hK (q := 47)  dX8_tempoOf_46 rfl (z := (ht (an.getD (an.length - 1) (0, 0)).1) - (ht (an.getD (an.length - 4) (0, 0)).1)) rfl (by omega) ?_
      rw [← htgE]
      refine k_isn hK (q := 48)  dX8_tempoOf_47 rfl (L2 := [some (vR 32), some (vI side), some (vI 0), some (vI (tgF ht an)), none, none]) (Nat.le_of_ble_eq_true rfl) rfl (k_aln hK (q := 49)  dX8_tempoOf_48 rfl (z := 32) rfl (k_gR hK (q := 52) (r := 34) dX8_tempoOf_49 rfl rf_X8_13 rfl rfl (k_aln hK (q := 53)  dX8_tempoOf_52 rfl (z := 32) rfl (k_gR hK (q := 56) (r := 45) dX8_tempoOf_53 rfl rf_X8_53 rfl rfl (k_aln hK (q := 57)  dX8_tempoOf_56 rfl (z := 32) rfl ?_)))))
      refine k_gI hK (q := 60) (z := M 32 22) 0 dX8_tempoOf_57 rfl rf_X8_127 rfl rfl rfl rfl (k_ic hK (q := 61)  dX8_tempoOf_60 rfl (by decide) (k_sub hK (q := 62)  dX8_tempoOf_61 rfl (z := (M 32 22) - 1) rfl (by omega) (k_ald hK (q := 63)  dX8_tempoOf_62 rfl (y := M 45 ((M 32 22) - 1)) rfl (by omega) rfl ?_)))
      rw [x1.1]
      refine k_ald hK (q := 64)  dX8_tempoOf_63 rfl (y := M 34 ((an.getD (an.length - 1) (0, 0)).2)) rfl (by omega) rfl (k_aln hK (q := 65)  dX8_tempoOf_64 rfl (z := 32) rfl (k_gR hK (q := 68) (r := 34) dX8_tempoOf_65 rfl rf_X8_13 rfl rfl (k_aln hK (q := 69)  dX8_tempoOf_68 rfl (z := 32) rfl (k_gR hK (q := 72) (r := 45) dX8_tempoOf_69 rfl rf_X8_53 rfl rfl (k_iln hK (q := 73)  dX8_tempoOf_72 rfl (z := 0) rfl ?_)))))
      refine k_ald hK (q := 74)  dX8_tempoOf_73 rfl (y := M 45 0) rfl (by omega) rfl ?_
      rw [x2.1]
      refine k_ald hK (q := 75)  dX8_tempoOf_74 rfl (y := M 34 ((an.getD (an.length - 4) (0, 0)).2)) rfl (by omega) rfl (k_sub hK (q := 76)  dX8_tempoOf_75 rfl (z := (M 34 ((an.getD (an.length - 1) (0, 0)).2)) - (M 34 ((an.getD (an.length - 4) (0, 0)).2))) rfl (by omega) ?_)
      rw [← hsgE]
      refine k_is hK (q := 78)  dX8_tempoOf_76 rfl (L2 := [some (vR 32), some (vI side), some (vI 0), some (vI (tgF ht an)), some (vI (sgF S an)), none]) (Nat.le_of_ble_eq_true rfl) rfl (k_iln hK (q := 79)  dX8_tempoOf_78 rfl (z := (tgF ht an)) rfl (k_il hK (q := 81)  dX8_tempoOf_79 rfl (z := (sgF S an)) rfl ?_))
      refine k_st2I hK (q := 84) dX8_tempoOf_81 rfl rm_X8_154 (Nat.le_of_ble_eq_true rfl) (xm_common _ M (tgF ht an) (sgF S an) (by omega) (by omega)) ?_
      rw [hG]
      refine k_is hK (q := 86)  dX8_tempoOf_84 rfl (L2 := [some (vR 32), some (vI side), some (vI 0), some (vI (tgF ht an)), some (vI (sgF S an)), some (vI g)]) (Nat.le_of_ble_eq_true rfl) rfl (k_iln hK (q := 87)  dX8_tempoOf_86 rfl (z := side) rfl ?_)
      refine k_ifne hK (q := 90) (t := 97) dX8_tempoOf_87 rfl rfl (fun h87 => ?_) (fun h87 => ?_)
      · refine k_il hK (q := 99)  dX8_tempoOf_97 rfl (z := (sgF S an)) rfl (k_il hK (q := 101)  dX8_tempoOf_99 rfl (z := g) rfl (k_div hK (q := 102)  dX8_tempoOf_101 rfl (z := Int.tdiv (sgF S an) g) (by omega) rfl (by omega) ?_))
        refine k_ir hK dX8_tempoOf_102 rfl ?_
        refine ⟨?_, rfl⟩
        unfold low
        rw [hG]
        first | rw [if_pos h87, fd_a (by omega) (by omega)] | rw [if_neg h87, fd_a (by omega) (by omega)]
      · refine k_iln hK (q := 91)  dX8_tempoOf_90 rfl (z := (tgF ht an)) rfl (k_il hK (q := 93)  dX8_tempoOf_91 rfl (z := g) rfl (k_div hK (q := 94)  dX8_tempoOf_93 rfl (z := Int.tdiv (tgF ht an) g) (by omega) rfl (by omega) (k_goto hK (t := 102) dX8_tempoOf_94 rfl ?_)))
        refine k_ir hK dX8_tempoOf_102 rfl ?_
        refine ⟨?_, rfl⟩
        unfold low
        rw [hG]
        first | rw [if_pos h87, fd_a (by omega) (by omega)] | rw [if_neg h87, fd_a (by omega) (by omega)]
    · rw [show (((an.length - 4 : Nat) : Nat) : Int) = M 32 22 - 4 by omega] at x2 o2
      refine k_aln hK (q := 19)  dX8_tempoOf_18 rfl (z := 32) rfl (k_gI hK (q := 22) (z := M 32 22) 0 dX8_tempoOf_19 rfl rf_X8_127 rfl rfl rfl rfl (k_ic hK (q := 23)  dX8_tempoOf_22 rfl (by decide) (k_sub hK (q := 24)  dX8_tempoOf_23 rfl (z := (M 32 22) - 4) rfl (by omega) (k_goto hK (t := 28) dX8_tempoOf_24 rfl (k_isn hK (q := 29)  dX8_tempoOf_28 rfl (L2 := [some (vR 32), some (vI side), some (vI ((M 32 22) - 4)), none, none, none]) (Nat.le_of_ble_eq_true rfl) rfl ?_)))))
      refine k_aln hK (q := 30)  dX8_tempoOf_29 rfl (z := 32) rfl (k_gR hK (q := 33) (r := 46) dX8_tempoOf_30 rfl rf_X8_56 rfl rfl (k_aln hK (q := 34)  dX8_tempoOf_33 rfl (z := 32) rfl (k_gI hK (q := 37) (z := M 32 22) 0 dX8_tempoOf_34 rfl rf_X8_127 rfl rfl rfl rfl (k_ic hK (q := 38)  dX8_tempoOf_37 rfl (by decide) (k_sub hK (q := 39)  dX8_tempoOf_38 rfl (z := (M 32 22) - 1) rfl (by omega) ?_)))))
      refine k_ald hK (q := 40)  dX8_tempoOf_39 rfl (y := M 46 ((M 32 22) - 1)) rfl (by omega) rfl ?_
      rw [x1.2]
      refine k_aln hK (q := 41)  dX8_tempoOf_40 rfl (z := 32) rfl (k_gR hK (q := 44) (r := 46) dX8_tempoOf_41 rfl rf_X8_56 rfl rfl (k_iln hK (q := 45)  dX8_tempoOf_44 rfl (z := ((M 32 22) - 4)) rfl (k_ald hK (q := 46)  dX8_tempoOf_45 rfl (y := M 46 ((M 32 22) - 4)) rfl (by omega) rfl ?_)))
      rw [x2.2]
      refine k_sub hK (q := 47)  dX8_tempoOf_46 rfl (z := (ht (an.getD (an.length - 1) (0, 0)).1) - (ht (an.getD (an.length - 4) (0, 0)).1)) rfl (by omega) ?_
      rw [← htgE]
      refine k_isn hK (q := 48)  dX8_tempoOf_47 rfl (L2 := [some (vR 32), some (vI side), some (vI ((M 32 22) - 4)), some (vI (tgF ht an)), none, none]) (Nat.le_of_ble_eq_true rfl) rfl (k_aln hK (q := 49)  dX8_tempoOf_48 rfl (z := 32) rfl (k_gR hK (q := 52) (r := 34) dX8_tempoOf_49 rfl rf_X8_13 rfl rfl (k_aln hK (q := 53)  dX8_tempoOf_52 rfl (z := 32) rfl (k_gR hK (q := 56) (r := 45) dX8_tempoOf_53 rfl rf_X8_53 rfl rfl (k_aln hK (q := 57)  dX8_tempoOf_56 rfl (z := 32) rfl ?_)))))
      refine k_gI hK (q := 60) (z := M 32 22) 0 dX8_tempoOf_57 rfl rf_X8_127 rfl rfl rfl rfl (k_ic hK (q := 61)  dX8_tempoOf_60 rfl (by decide) (k_sub hK (q := 62)  dX8_tempoOf_61 rfl (z := (M 32 22) - 1) rfl (by omega) (k_ald hK (q := 63)  dX8_tempoOf_62 rfl (y := M 45 ((M 32 22) - 1)) rfl (by omega) rfl ?_)))
      rw [x1.1]
      refine k_ald hK (q := 64)  dX8_tempoOf_63 rfl (y := M 34 ((an.getD (an.length - 1) (0, 0)).2)) rfl (by omega) rfl (k_aln hK (q := 65)  dX8_tempoOf_64 rfl (z := 32) rfl (k_gR hK (q := 68) (r := 34) dX8_tempoOf_65 rfl rf_X8_13 rfl rfl (k_aln hK (q := 69)  dX8_tempoOf_68 rfl (z := 32) rfl (k_gR hK (q := 72) (r := 45) dX8_tempoOf_69 rfl rf_X8_53 rfl rfl (k_iln hK (q := 73)  dX8_tempoOf_72 rfl (z := ((M 32 22) - 4)) rfl ?_)))))
      refine k_ald hK (q := 74)  dX8_tempoOf_73 rfl (y := M 45 ((M 32 22) - 4)) rfl (by omega) rfl ?_
      rw [x2.1]
      refine k_ald hK (q := 75)  dX8_tempoOf_74 rfl (y := M 34 ((an.getD (an.length - 4) (0, 0)).2)) rfl (by omega) rfl (k_sub hK (q := 76)  dX8_tempoOf_75 rfl (z := (M 34 ((an.getD (an.length - 1) (0, 0)).2)) - (M 34 ((an.getD (an.length - 4) (0, 0)).2))) rfl (by omega) ?_)
      rw [← hsgE]
      refine k_is hK (q := 78)  dX8_tempoOf_76 rfl (L2 := [some (vR 32), some (vI side), some (vI ((M 32 22) - 4)), some (vI (tgF ht an)), some (vI (sgF S an)), none]) (Nat.le_of_ble_eq_true rfl) rfl (k_iln hK (q := 79)  dX8_tempoOf_78 rfl (z := (tgF ht an)) rfl (k_il hK (q := 81)  dX8_tempoOf_79 rfl (z := (sgF S an)) rfl ?_))
      refine k_st2I hK (q := 84) dX8_tempoOf_81 rfl rm_X8_154 (Nat.le_of_ble_eq_true rfl) (xm_common _ M (tgF ht an) (sgF S an) (by omega) (by omega)) ?_
      rw [hG]
      refine k_is hK (q := 86)  dX8_tempoOf_84 rfl (L2 := [some (vR 32), some (vI side), some (vI ((M 32 22) - 4)), some (vI (tgF ht an)), some (vI (sgF S an)), some (vI g)]) (Nat.le_of_ble_eq_true rfl) rfl (k_iln hK (q := 87)  dX8_tempoOf_86 rfl (z := side) rfl ?_)
      refine k_ifne hK (q := 90) (t := 97) dX8_tempoOf_87 rfl rfl (fun h87 => ?_) (fun h87 => ?_)
      · refine k_il hK (q := 99)  dX8_tempoOf_97 rfl (z := (sgF S an)) rfl (k_il hK (q := 101)  dX8_tempoOf_99 rfl (z := g) rfl (k_div hK (q := 102)  dX8_tempoOf_101 rfl (z := Int.tdiv (sgF S an) g) (by omega) rfl (by omega) ?_))
        refine k_ir hK dX8_tempoOf_102 rfl ?_
        refine ⟨?_, rfl⟩
        unfold low
        rw [hG]
        first | rw [if_pos h87, fd_a (by omega) (by omega)] | rw [if_neg h87, fd_a (by omega) (by omega)]
      · refine k_iln hK (q := 91)  dX8_tempoOf_90 rfl (z := (tgF ht an)) rfl (k_il hK (q := 93)  dX8_tempoOf_91 rfl (z := g) rfl (k_div hK (q := 94)  dX8_tempoOf_93 rfl (z := Int.tdiv (tgF ht an) g) (by omega) rfl (by omega) (k_goto hK (t := 102) dX8_tempoOf_94 rfl ?_)))
        refine k_ir hK dX8_tempoOf_102 rfl ?_
        refine ⟨?_, rfl⟩
        unfold low
        rw [hG]
        first | rw [if_pos h87, fd_a (by omega) (by omega)] | rw [if_neg h87, fd_a (by omega) (by omega)]
  · refine k_ic hK (q := 9)  dX8_tempoOf_8 rfl (by decide) ?_
    refine k_ir hK dX8_tempoOf_9 rfl ?_
    refine ⟨?_, rfl⟩
    unfold low
    have ht1 : tgF ht an = 1 := by unfold tgF; rw [if_pos (by omega)]
    have hs1 : sgF S an = 1 := by unfold sgF; rw [if_pos (by omega)]
    rw [ht1, hs1]
    split <;> rfl

set_option maxRecDepth 20000 in
set_option maxHeartbeats 2000000 in
theorem xm_tempo (d t : Nat) (M : ra_M) (S : Sc) (cnt : Int) (hp ht : Int → Int) (ses : Int) (bx du : Int → Int) (al : Al8) (hI : IM S cnt hp ht ses bx du al M) (hw : WF t S cnt hp ht ses bx al) (side : Int) : Ex (d + 2) m_X8_tempo [vR 32, vI side] M (PQ S cnt hp ht ses bx du al (aTem S cnt hp ht side) M) := by
  refine Ex_call (Nat.le_of_ble_eq_true rfl) (fun K hK => ?_)
  show K 0 [some (vR 32), some (vI side)] [] M
  have hK : ra_Clo _ m_X8_tempo cX8_tempo _ K := hK
  have hI0 := hI
  obtain ⟨hs, ⟨g14, g40, g41⟩, ⟨g15, g35, g36⟩, hF, hL⟩ := hI
  obtain ⟨hS, hc, hnn, hh, hse, hbx, hal⟩ := hw
  obtain ⟨e5, e6, e7, e8, e9⟩ := scM_e hs
  obtain ⟨a2, a3, a4, a5, a6⟩ := scM_a hs
  have hs0 := hS.1
  have hs1 := hS.2.1
  have hs2 := hS.2.2.1
  have hoA := okAN S hp cnt.toNat
  rw [show (((cnt.toNat : Nat) : Nat) : Int) = cnt by omega] at hoA
  have htg := tg_in hh hoA
  have hsg := sg_pos hS hoA
  have hs9 : scM (up M 32 34 0) = S := by rw [scM_o2 _ _ _ (by decide)]; exact hs
  have hA9 : AnM (up M 32 34 0) ht (AN S hp cnt.toNat) := AnM_f hF.2.2 (by simp [up]) (up_k _ _ _ (by decide)) (up_k _ _ _ (by decide))
  refine k_aln hK (q := 1)  dX8_tempo_0 rfl (z := 32) rfl (k_ic hK (q := 2)  dX8_tempo_1 rfl (by decide) (k_pI hK (q := 5) (M2 := up M 32 34 0) dX8_tempo_2 rfl rp_X8_83 rfl rfl rfl (k_iln hK (q := 6)  dX8_tempo_5 rfl (z := side) rfl ?_)))
  refine k_ifeq hK (q := 9) (t := 14) dX8_tempo_6 rfl rfl (fun h6 => ?_) (fun h6 => ?_)
  · refine k_aln hK (q := 15)  dX8_tempo_14 rfl (z := 32) rfl (k_iln hK (q := 16)  dX8_tempo_15 rfl (z := side) rfl ?_)
    refine k_iv1I hK (q := 19) dX8_tempo_16 rfl rm_X8_157 rfl rfl (Nat.le_of_ble_eq_true rfl) (xm_tempoOf _ (up M 32 34 0) side S hs9 hS ht (AN S hp cnt.toNat) cnt hA9 hoA (by omega) hh) ?_
    refine k_goto hK (t := 24) dX8_tempo_19 rfl ?_
    refine k_ir hK dX8_tempo_24 rfl ?_
    refine PQ_same ?_ hI0
    unfold aTem
    rw [if_neg (by omega)]
  · refine k_iln hK (q := 10)  dX8_tempo_9 rfl (z := side) rfl (k_ic hK (q := 11)  dX8_tempo_10 rfl (by decide) ?_)
    refine k_cne hK (q := 14) (t := 22) dX8_tempo_11 rfl rfl (fun h11 => ?_) (fun h11 => ?_)
    · refine k_bp hK (q := 24)  dX8_tempo_22 rfl (by decide) ?_
      refine k_ir hK dX8_tempo_24 rfl ?_
      refine PQ_same ?_ hI0
      unfold aTem
      rw [if_pos (by omega)]
    · refine k_aln hK (q := 15)  dX8_tempo_14 rfl (z := 32) rfl (k_iln hK (q := 16)  dX8_tempo_15 rfl (z := side) rfl ?_)
      refine k_iv1I hK (q := 19) dX8_tempo_16 rfl rm_X8_157 rfl rfl (Nat.le_of_ble_eq_true rfl) (xm_tempoOf _ (up M 32 34 0) side S hs9 hS ht (AN S hp cnt.toNat) cnt hA9 hoA (by omega) hh) ?_
      refine k_goto hK (t := 24) dX8_tempo_19 rfl ?_
      refine k_ir hK dX8_tempo_24 rfl ?_
      refine PQ_same ?_ hI0
      unfold aTem
      rw [if_neg (by omega)]

theorem low_div {u l g : Int} (hu : 0 ≤ u) (hl : 1 ≤ l) : g * low u l 0 / low u l 1 = g * u / l := by
  have hd1 : ((Nat.gcd u.toNat l.toNat : Nat) : Int) ∣ u := by
    have := Int.natCast_dvd_natCast.mpr (Nat.gcd_dvd_left u.toNat l.toNat)
    rwa [Int.toNat_of_nonneg hu] at this
  have hd2 : ((Nat.gcd u.toNat l.toNat : Nat) : Int) ∣ l := by
    have := Int.natCast_dvd_natCast.mpr (Nat.gcd_dvd_right u.toNat l.toNat)
    rwa [Int.toNat_of_nonneg (by omega)] at this
  have hg : 0 < ((Nat.gcd u.toNat l.toNat : Nat) : Int) := by
    have := Nat.gcd_pos_of_pos_right u.toNat (show 0 < l.toNat by omega)
    omega
  unfold low
  rw [if_pos rfl, if_neg (by decide)]
  generalize ((Nat.gcd u.toNat l.toNat : Nat) : Int) = d at *
  obtain ⟨a, rfl⟩ := hd1
  obtain ⟨b, rfl⟩ := hd2
  rw [Int.mul_ediv_cancel_left _ (by omega), Int.mul_ediv_cancel_left _ (by omega)]
  rw [show g * (d * a) = d * (g * a) by rw [← Int.mul_assoc, Int.mul_comm g d, Int.mul_assoc]]
  rw [Int.mul_ediv_mul_of_pos _ _ hg]
theorem low_in {u l side : Int} (hu : 0 ≤ u ∧ u ≤ 10000000) (hl : 1 ≤ l ∧ l ≤ 1000000) : (0 ≤ low u l side ∧ low u l side ≤ 10000000) ∧ (side ≠ 0 → 1 ≤ low u l side) := by
  have hg : 0 < ((Nat.gcd u.toNat l.toNat : Nat) : Int) := by
    have := Nat.gcd_pos_of_pos_right u.toNat (show 0 < l.toNat by omega)
    omega
  have hd2 : ((Nat.gcd u.toNat l.toNat : Nat) : Int) ∣ l := by
    have := Int.natCast_dvd_natCast.mpr (Nat.gcd_dvd_right u.toNat l.toNat)
    rwa [Int.toNat_of_nonneg (by omega)] at this
  unfold low
  generalize ((Nat.gcd u.toNat l.toNat : Nat) : Int) = d at *
  refine ⟨⟨Int.ediv_nonneg (by split <;> omega) (by omega), ?_⟩, fun hs => ?_⟩
  · have := Int.ediv_le_self (a := if side = 0 then u else l) d (by split <;> omega)
    split at this <;> split <;> omega
  · rw [if_neg hs, Int.le_ediv_iff_mul_le hg]
    have := Int.le_of_dvd (by omega) hd2
    omega

set_option maxRecDepth 20000 in
set_option maxHeartbeats 2000000 in
theorem xm_ahead (d t : Nat) (M : ra_M) (S : Sc) (cnt : Int) (hp ht : Int → Int) (ses : Int) (bx du : Int → Int) (al : Al8) (hI : IM S cnt hp ht ses bx du al M) (hw : WF t S cnt hp ht ses bx al) (n : Int) : Ex (d + 2) m_X8_ahead [vR 32, vI n] M (fun r M2 => r = some (vJ (aAhd S cnt hp ht n)) ∧ IM S cnt hp ht ses bx du al M2 ∧ moF M M2) := by
  refine Ex_call (Nat.le_of_ble_eq_true rfl) (fun K hK => ?_)
  show K 0 [some (vR 32), some (vI n), none, none, none, none, none, none] [] M
  have hK : ra_Clo _ m_X8_ahead cX8_ahead _ K := hK
  have hI0 := hI
  obtain ⟨hs, ⟨g14, g40, g41⟩, ⟨g15, g35, g36⟩, hF, hL⟩ := hI
  obtain ⟨hS, hc, hnn, hh, hse, hbx, hal⟩ := hw
  obtain ⟨e5, e6, e7, e8, e9⟩ := scM_e hs
  obtain ⟨a2, a3, a4, a5, a6⟩ := scM_a hs
  have hs0 := hS.1
  have hs1 := hS.2.1
  have hs2 := hS.2.2.1
  have hoA := okAN S hp cnt.toNat
  rw [show (((cnt.toNat : Nat) : Nat) : Int) = cnt by omega] at hoA
  have htg := tg_in hh hoA
  have hsg := sg_pos hS hoA
  have hs9 : scM (up M 32 34 0) = S := by rw [scM_o2 _ _ _ (by decide)]; exact hs
  have hA9 : AnM (up M 32 34 0) ht (AN S hp cnt.toNat) := AnM_f hF.2.2 (by simp [up]) (up_k _ _ _ (by decide)) (up_k _ _ _ (by decide))
  have hl := hF.2.2.1
  have hlen := okAn_len hS hoA
  have l0 := (low_in (side := 0) htg hsg).1
  have l1 := (low_in (side := 1) htg hsg).1
  have l1p := (low_in (side := 1) htg hsg).2 (by decide)
  obtain ⟨Un, hE1⟩ : ∃ Un, low (tgF ht (AN S hp cnt.toNat)) (sgF S (AN S hp cnt.toNat)) 1 = Un := ⟨_, rfl⟩
  rw [hE1] at l1 l1p
  refine k_aln hK (q := 1)  dX8_ahead_0 rfl (z := 32) rfl (k_ic hK (q := 2)  dX8_ahead_1 rfl (by decide) (k_pI hK (q := 5) (M2 := up M 32 34 0) dX8_ahead_2 rfl rp_X8_83 rfl rfl rfl (k_iln hK (q := 6)  dX8_ahead_5 rfl (z := n) rfl ?_)))
  refine k_iflt hK (q := 9) (t := 17) dX8_ahead_6 rfl rfl (fun h6 => ?_) (fun h6 => ?_)
  · refine k_ldc2 hK (q := 20)  dX8_ahead_17 rfl rc_X8_161 ?_
    refine k_lr hK dX8_ahead_20 rfl ?_
    refine ⟨?_, IM_f hI0 (frM_fd (frM_refl [] [34] _) _ (by decide)) (by simp) (by decide), moF_M (frM_fd (frM_refl [] [34] _) _ (by decide)) (by simp)⟩
    unfold aAhd
    rw [if_pos (by omega)]
  · refine k_iln hK (q := 10)  dX8_ahead_9 rfl (z := n) rfl (k_aln hK (q := 11)  dX8_ahead_10 rfl (z := 32) rfl (k_gI hK (q := 14) (z := M 32 4) 0 dX8_ahead_11 rfl rf_X8_86 rfl rfl rfl rfl ?_))
    refine k_clt hK (q := 17) (t := 21) dX8_ahead_14 rfl rfl (fun h14 => ?_) (fun h14 => ?_)
    · refine k_aln hK (q := 22)  dX8_ahead_21 rfl (z := 32) rfl (k_gI hK (q := 25) (z := M 32 22) 0 dX8_ahead_22 rfl rf_X8_127 rfl rfl rfl rfl ?_)
      refine k_ifne hK (q := 28) (t := 32) dX8_ahead_25 rfl rfl (fun h25 => ?_) (fun h25 => ?_)
      · have h1 := an_get (an := AN S hp cnt.toNat) (i := (AN S hp cnt.toNat).length - 1) (by omega)
        have x1 := hF.2.2.2 _ _ h1
        have o1 := hoA.1 _ _ h1
        rw [show ((((AN S hp cnt.toNat).length - 1 : Nat) : Nat) : Int) = M 32 22 - 1 by omega] at x1 o1
        have t1 := hh.1 _ o1.1 o1.2.1
        have s1 := (hS.2.2.2.2.1 _ (show 0 ≤ ((AN S hp cnt.toNat).getD ((AN S hp cnt.toNat).length - 1) (0, 0)).2 by omega) o1.2.2.2).2
        have s2 := (hS.2.2.2.2.1 n (by omega) (by omega)).2
        rw [← a3] at s1 s2
        have hmul := mul_in (z := M 34 n - M 34 ((AN S hp cnt.toNat).getD ((AN S hp cnt.toNat).length - 1) (0, 0)).2) (t := low (tgF ht (AN S hp cnt.toNat)) (sgF S (AN S hp cnt.toNat)) 0) (by omega) l0
        obtain ⟨By, hE0⟩ : ∃ By, (M 34 n - M 34 ((AN S hp cnt.toNat).getD ((AN S hp cnt.toNat).length - 1) (0, 0)).2) * low (tgF ht (AN S hp cnt.toNat)) (sgF S (AN S hp cnt.toNat)) 0 = By := ⟨_, rfl⟩
        rw [hE0] at hmul
        have hq := fd_in (a := By) (b := Un) (by omega) (by omega)
        have hq1 := Int.mul_tdiv_add_tmod By Un
        have hq2 := tmod_bounds (a := By) (M := Un) (by omega)
        have hqc : Un * By.tdiv Un = By.tdiv Un * Un := Int.mul_comm _ _
        have hqs : ¬ By < 0 → 0 ≤ By.tmod Un := fun q => Int.tmod_nonneg _ (by omega)
        have hqn : By < 0 → By.tmod Un ≤ 0 := by
          intro q
          have := Int.tmod_nonneg (a := -By) Un (by omega)
          rw [Int.neg_tmod] at this
          omega
        refine k_aln hK (q := 33)  dX8_ahead_32 rfl (z := 32) rfl (k_gR hK (q := 36) (r := 34) dX8_ahead_33 rfl rf_X8_13 rfl rfl (k_iln hK (q := 37)  dX8_ahead_36 rfl (z := n) rfl (k_ald hK (q := 38)  dX8_ahead_37 rfl (y := M 34 n) rfl (by omega) rfl (k_aln hK (q := 39)  dX8_ahead_38 rfl (z := 32) rfl (k_gR hK (q := 42) (r := 34) dX8_ahead_39 rfl rf_X8_13 rfl rfl ?_)))))
        refine k_aln hK (q := 43)  dX8_ahead_42 rfl (z := 32) rfl (k_gR hK (q := 46) (r := 45) dX8_ahead_43 rfl rf_X8_53 rfl rfl (k_aln hK (q := 47)  dX8_ahead_46 rfl (z := 32) rfl (k_gI hK (q := 50) (z := M 32 22) 0 dX8_ahead_47 rfl rf_X8_127 rfl rfl rfl rfl (k_ic hK (q := 51)  dX8_ahead_50 rfl (by decide) (k_sub hK (q := 52)  dX8_ahead_51 rfl (z := (M 32 22) - 1) rfl (by omega) ?_)))))
        refine k_ald hK (q := 53)  dX8_ahead_52 rfl (y := M 45 ((M 32 22) - 1)) rfl (by omega) rfl ?_
        rw [x1.1]
        refine k_ald hK (q := 54)  dX8_ahead_53 rfl (y := M 34 (((AN S hp cnt.toNat).getD ((AN S hp cnt.toNat).length - 1) (0, 0)).2)) rfl (by omega) rfl (k_sub hK (q := 55)  dX8_ahead_54 rfl (z := (M 34 n) - (M 34 (((AN S hp cnt.toNat).getD ((AN S hp cnt.toNat).length - 1) (0, 0)).2))) rfl (by omega) (k_i2l hK (q := 56)  dX8_ahead_55 rfl (k_aln hK (q := 57)  dX8_ahead_56 rfl (z := 32) rfl (k_ic hK (q := 58)  dX8_ahead_57 rfl (by decide) ?_))))
        refine k_iv1I hK (q := 61) dX8_ahead_58 rfl rm_X8_157 rfl rfl (Nat.le_of_ble_eq_true rfl) (xm_tempoOf _ (up M 32 34 0) 0 S hs9 hS ht (AN S hp cnt.toNat) cnt hA9 hoA (by omega) hh) ?_
        refine k_i2l hK (q := 62)  dX8_ahead_61 rfl (k_lmul hK (q := 63)  dX8_ahead_62 rfl (z := ((M 34 n) - (M 34 (((AN S hp cnt.toNat).getD ((AN S hp cnt.toNat).length - 1) (0, 0)).2))) * (low (tgF ht (AN S hp cnt.toNat)) (sgF S (AN S hp cnt.toNat)) 0)) rfl (by omega) ?_)
        rw [hE0]
        refine k_lsn hK (q := 64)  dX8_ahead_63 rfl (L2 := [some (vR 32), some (vI n), some (vJ By), none, none, none, none, none]) (Nat.le_of_ble_eq_true rfl) rfl (k_aln hK (q := 65)  dX8_ahead_64 rfl (z := 32) rfl (k_ic hK (q := 66)  dX8_ahead_65 rfl (by decide) ?_))
        refine k_iv1I hK (q := 69) dX8_ahead_66 rfl rm_X8_157 rfl rfl (Nat.le_of_ble_eq_true rfl) (xm_tempoOf _ (up M 32 34 0) 1 S hs9 hS ht (AN S hp cnt.toNat) cnt hA9 hoA (by omega) hh) ?_
        refine k_i2l hK (q := 70)  dX8_ahead_69 rfl ?_
        rw [hE1]
        refine k_ls hK (q := 72)  dX8_ahead_70 rfl (L2 := [some (vR 32), some (vI n), some (vJ By), none, some (vJ Un), none, none, none]) (Nat.le_of_ble_eq_true rfl) rfl (k_lln hK (q := 73)  dX8_ahead_72 rfl (z := By) rfl (k_ll hK (q := 75)  dX8_ahead_73 rfl (z := Un) rfl (k_ldiv hK (q := 76)  dX8_ahead_75 rfl (z := Int.tdiv By Un) (by omega) rfl (by omega) (k_ls hK (q := 78)  dX8_ahead_76 rfl (L2 := [some (vR 32), some (vI n), some (vJ By), none, some (vJ Un), none, some (vJ (Int.tdiv By Un)), none]) (Nat.le_of_ble_eq_true rfl) rfl (k_ll hK (q := 80)  dX8_ahead_78 rfl (z := (Int.tdiv By Un)) rfl ?_)))))
        refine k_ll hK (q := 82)  dX8_ahead_80 rfl (z := Un) rfl (k_lmul hK (q := 83)  dX8_ahead_82 rfl (z := (Int.tdiv By Un) * Un) rfl (by omega) (k_lln hK (q := 84)  dX8_ahead_83 rfl (z := By) rfl (k_lcmp hK (q := 85)  dX8_ahead_84 rfl ?_)))
        refine k_ifle hK (q := 88) (t := 94) dX8_ahead_85 rfl rfl (fun h85 => ?_) (fun h85 => ?_)
        · refine k_aln hK (q := 95)  dX8_ahead_94 rfl (z := 32) rfl (k_gR hK (q := 98) (r := 46) dX8_ahead_95 rfl rf_X8_56 rfl rfl (k_aln hK (q := 99)  dX8_ahead_98 rfl (z := 32) rfl (k_gI hK (q := 102) (z := M 32 22) 0 dX8_ahead_99 rfl rf_X8_127 rfl rfl rfl rfl (k_ic hK (q := 103)  dX8_ahead_102 rfl (by decide) (k_sub hK (q := 104)  dX8_ahead_103 rfl (z := (M 32 22) - 1) rfl (by omega) ?_)))))
          refine k_ald hK (q := 105)  dX8_ahead_104 rfl (y := M 46 ((M 32 22) - 1)) rfl (by omega) rfl ?_
          rw [x1.2]
          refine k_i2l hK (q := 106)  dX8_ahead_105 rfl (k_ll hK (q := 108)  dX8_ahead_106 rfl (z := (Int.tdiv By Un)) rfl (k_ladd hK (q := 109)  dX8_ahead_108 rfl (z := (ht ((AN S hp cnt.toNat).getD ((AN S hp cnt.toNat).length - 1) (0, 0)).1) + (Int.tdiv By Un)) rfl (by omega) ?_))
          refine k_lr hK dX8_ahead_109 rfl ?_
          refine ⟨?_, IM_f hI0 (frM_fd (frM_refl [] [34] _) _ (by decide)) (by simp) (by decide), moF_M (frM_fd (frM_refl [] [34] _) _ (by decide)) (by simp)⟩
          unfold aAhd
          rw [if_neg (by omega), if_neg (by omega)]
          unfold exF
          rw [← low_div (by omega) (by omega), ← a3, hE0, hE1]
          have hfl : (By : Int).tdiv Un = By / Un := by
            by_cases h0 : By < 0
            · exact fd_b (by omega) (by omega)
            · exact fd_a (by omega) h0
          rw [hfl]
        · refine k_ll hK (q := 90)  dX8_ahead_88 rfl (z := (Int.tdiv By Un)) rfl (k_lc hK (q := 91)  dX8_ahead_90 rfl (z := 1) rfl (k_lsub hK (q := 92)  dX8_ahead_91 rfl (z := (Int.tdiv By Un) - 1) rfl (by omega) (k_ls hK (q := 94)  dX8_ahead_92 rfl (L2 := [some (vR 32), some (vI n), some (vJ By), none, some (vJ Un), none, some (vJ ((Int.tdiv By Un) - 1)), none]) (Nat.le_of_ble_eq_true rfl) rfl (k_aln hK (q := 95)  dX8_ahead_94 rfl (z := 32) rfl (k_gR hK (q := 98) (r := 46) dX8_ahead_95 rfl rf_X8_56 rfl rfl ?_)))))
          refine k_aln hK (q := 99)  dX8_ahead_98 rfl (z := 32) rfl (k_gI hK (q := 102) (z := M 32 22) 0 dX8_ahead_99 rfl rf_X8_127 rfl rfl rfl rfl (k_ic hK (q := 103)  dX8_ahead_102 rfl (by decide) (k_sub hK (q := 104)  dX8_ahead_103 rfl (z := (M 32 22) - 1) rfl (by omega) (k_ald hK (q := 105)  dX8_ahead_104 rfl (y := M 46 ((M 32 22) - 1)) rfl (by omega) rfl ?_))))
          rw [x1.2]
          refine k_i2l hK (q := 106)  dX8_ahead_105 rfl (k_ll hK (q := 108)  dX8_ahead_106 rfl (z := ((Int.tdiv By Un) - 1)) rfl (k_ladd hK (q := 109)  dX8_ahead_108 rfl (z := (ht ((AN S hp cnt.toNat).getD ((AN S hp cnt.toNat).length - 1) (0, 0)).1) + ((Int.tdiv By Un) - 1)) rfl (by omega) ?_))
          refine k_lr hK dX8_ahead_109 rfl ?_
          refine ⟨?_, IM_f hI0 (frM_fd (frM_refl [] [34] _) _ (by decide)) (by simp) (by decide), moF_M (frM_fd (frM_refl [] [34] _) _ (by decide)) (by simp)⟩
          unfold aAhd
          rw [if_neg (by omega), if_neg (by omega)]
          unfold exF
          rw [← low_div (by omega) (by omega), ← a3, hE0, hE1]
          rw [fd_c (by omega) (by omega) (by omega)]
      · refine k_ldc2 hK (q := 31)  dX8_ahead_28 rfl rc_X8_163 ?_
        refine k_lr hK dX8_ahead_31 rfl ?_
        refine ⟨?_, IM_f hI0 (frM_fd (frM_refl [] [34] _) _ (by decide)) (by simp) (by decide), moF_M (frM_fd (frM_refl [] [34] _) _ (by decide)) (by simp)⟩
        unfold aAhd
        rw [if_neg (by omega), if_pos (by omega)]
    · refine k_ldc2 hK (q := 20)  dX8_ahead_17 rfl rc_X8_161 ?_
      refine k_lr hK dX8_ahead_20 rfl ?_
      refine ⟨?_, IM_f hI0 (frM_fd (frM_refl [] [34] _) _ (by decide)) (by simp) (by decide), moF_M (frM_fd (frM_refl [] [34] _) _ (by decide)) (by simp)⟩
      unfold aAhd
      rw [if_pos (by omega)]

set_option maxRecDepth 20000 in
set_option maxHeartbeats 2000000 in
theorem xm_of (d t : Nat) (M : ra_M) (S : Sc) (cnt : Int) (hp ht : Int → Int) (ses : Int) (bx du : Int → Int) (al : Al8) (hI : IM S cnt hp ht ses bx du al M) (hw : WF t S cnt hp ht ses bx al) (n w : Int) : Ex d m_X8_of [vR 32, vI n, vI w] M (PQ S cnt hp ht ses bx du al (aOf S bx du n w) M) := by
  refine Ex_leaf (Nat.le_of_ble_eq_true rfl) (fun C K hK => ?_)
  show K 0 [some (vR 32), some (vI n), some (vI w)] [] M
  have hK : ra_Clo _ m_X8_of cX8_of _ K := hK
  have hI0 := hI
  obtain ⟨hs, ⟨g14, g40, g41⟩, ⟨g15, g35, g36⟩, hF, hL⟩ := hI
  obtain ⟨hS, hc, hnn, hh, hse, hbx, hal⟩ := hw
  obtain ⟨e5, e6, e7, e8, e9⟩ := scM_e hs
  obtain ⟨a2, a3, a4, a5, a6⟩ := scM_a hs
  have hs0 := hS.1
  have hs1 := hS.2.1
  have hs2 := hS.2.2.1
  refine k_aln hK (q := 1)  dX8_of_0 rfl (z := 32) rfl (k_ic hK (q := 2)  dX8_of_1 rfl (by decide) (k_pI hK (q := 5) (M2 := up M 32 34 0) dX8_of_2 rfl rp_X8_83 rfl rfl rfl (k_iln hK (q := 6)  dX8_of_5 rfl (z := n) rfl ?_)))
  refine k_iflt hK (q := 9) (t := 26) dX8_of_6 rfl rfl (fun h6 => ?_) (fun h6 => ?_)
  · refine k_bp hK (q := 28)  dX8_of_26 rfl (by decide) ?_
    refine k_ir hK dX8_of_28 rfl ?_
    refine PQ_same ?_ hI0
    unfold aOf
    by_cases q : 0 ≤ n ∧ n < S 0 0
    · rw [if_neg (fun z => z q), if_neg (by omega), if_neg (by omega), if_neg (by omega), if_neg (by omega)]
    · rw [if_pos q]
  · refine k_iln hK (q := 10)  dX8_of_9 rfl (z := n) rfl (k_aln hK (q := 11)  dX8_of_10 rfl (z := 32) rfl (k_gI hK (q := 14) (z := M 32 4) 0 dX8_of_11 rfl rf_X8_86 rfl rfl rfl rfl ?_))
    refine k_cge hK (q := 17) (t := 26) dX8_of_14 rfl rfl (fun h14 => ?_) (fun h14 => ?_)
    · refine k_bp hK (q := 28)  dX8_of_26 rfl (by decide) ?_
      refine k_ir hK dX8_of_28 rfl ?_
      refine PQ_same ?_ hI0
      unfold aOf
      by_cases q : 0 ≤ n ∧ n < S 0 0
      · rw [if_neg (fun z => z q), if_neg (by omega), if_neg (by omega), if_neg (by omega), if_neg (by omega)]
      · rw [if_pos q]
    · refine k_iln hK (q := 18)  dX8_of_17 rfl (z := w) rfl ?_
      refine k_iflt hK (q := 21) (t := 26) dX8_of_18 rfl rfl (fun h18 => ?_) (fun h18 => ?_)
      · refine k_bp hK (q := 28)  dX8_of_26 rfl (by decide) ?_
        refine k_ir hK dX8_of_28 rfl ?_
        refine PQ_same ?_ hI0
        unfold aOf
        by_cases q : 0 ≤ n ∧ n < S 0 0
        · rw [if_neg (fun z => z q), if_neg (by omega), if_neg (by omega), if_neg (by omega), if_neg (by omega)]
        · rw [if_pos q]
      · refine k_iln hK (q := 22)  dX8_of_21 rfl (z := w) rfl (k_ic hK (q := 23)  dX8_of_22 rfl (by decide) ?_)
        refine k_cle hK (q := 26) (t := 29) dX8_of_23 rfl rfl (fun h23 => ?_) (fun h23 => ?_)
        · refine k_iln hK (q := 30)  dX8_of_29 rfl (z := w) rfl ?_
          refine k_ifne hK (q := 33) (t := 42) dX8_of_30 rfl rfl (fun h30 => ?_) (fun h30 => ?_)
          · refine k_iln hK (q := 43)  dX8_of_42 rfl (z := w) rfl (k_ic hK (q := 44)  dX8_of_43 rfl (by decide) ?_)
            refine k_cne hK (q := 47) (t := 56) dX8_of_44 rfl rfl (fun h44 => ?_) (fun h44 => ?_)
            · refine k_iln hK (q := 57)  dX8_of_56 rfl (z := w) rfl (k_ic hK (q := 58)  dX8_of_57 rfl (by decide) ?_)
              refine k_cne hK (q := 61) (t := 70) dX8_of_58 rfl rfl (fun h58 => ?_) (fun h58 => ?_)
              · refine k_aln hK (q := 71)  dX8_of_70 rfl (z := 32) rfl (k_gR hK (q := 74) (r := 36) dX8_of_71 rfl rf_X8_19 rfl rfl (k_iln hK (q := 75)  dX8_of_74 rfl (z := n) rfl (k_ald hK (q := 76)  dX8_of_75 rfl (y := M 36 n) rfl (by omega) rfl ?_)))
                refine k_ir hK dX8_of_76 rfl ?_
                refine PQ_same ?_ hI0
                unfold aOf
                rw [if_neg (by omega), if_neg (by omega), if_neg (by omega), if_neg (by omega), if_pos (by omega), ← g36]
              · refine k_aln hK (q := 62)  dX8_of_61 rfl (z := 32) rfl (k_gR hK (q := 65) (r := 35) dX8_of_62 rfl rf_X8_16 rfl rfl (k_iln hK (q := 66)  dX8_of_65 rfl (z := n) rfl (k_ald hK (q := 67)  dX8_of_66 rfl (y := M 35 n) rfl (by omega) rfl (k_goto hK (t := 76) dX8_of_67 rfl ?_))))
                refine k_ir hK dX8_of_76 rfl ?_
                refine PQ_same ?_ hI0
                unfold aOf
                rw [if_neg (by omega), if_neg (by omega), if_neg (by omega), if_pos (by omega), ← g35]
            · refine k_aln hK (q := 48)  dX8_of_47 rfl (z := 32) rfl (k_gR hK (q := 51) (r := 34) dX8_of_48 rfl rf_X8_13 rfl rfl (k_iln hK (q := 52)  dX8_of_51 rfl (z := n) rfl (k_ald hK (q := 53)  dX8_of_52 rfl (y := M 34 n) rfl (by omega) rfl (k_goto hK (t := 76) dX8_of_53 rfl ?_))))
              refine k_ir hK dX8_of_76 rfl ?_
              refine PQ_same ?_ hI0
              unfold aOf
              rw [if_neg (by omega), if_neg (by omega), if_pos (by omega), ← a3]
          · refine k_aln hK (q := 34)  dX8_of_33 rfl (z := 32) rfl (k_gR hK (q := 37) (r := 33) dX8_of_34 rfl rf_X8_7 rfl rfl (k_iln hK (q := 38)  dX8_of_37 rfl (z := n) rfl (k_ald hK (q := 39)  dX8_of_38 rfl (y := M 33 n) rfl (by omega) rfl (k_goto hK (t := 76) dX8_of_39 rfl ?_))))
            refine k_ir hK dX8_of_76 rfl ?_
            refine PQ_same ?_ hI0
            unfold aOf
            rw [if_neg (by omega), if_pos (by omega), ← a2]
        · refine k_bp hK (q := 28)  dX8_of_26 rfl (by decide) ?_
          refine k_ir hK dX8_of_28 rfl ?_
          refine PQ_same ?_ hI0
          unfold aOf
          by_cases q : 0 ≤ n ∧ n < S 0 0
          · rw [if_neg (fun z => z q), if_neg (by omega), if_neg (by omega), if_neg (by omega), if_neg (by omega)]
          · rw [if_pos q]

set_option maxRecDepth 20000 in
set_option maxHeartbeats 2000000 in
theorem xm_told (d t : Nat) (M : ra_M) (S : Sc) (cnt : Int) (hp ht : Int → Int) (ses : Int) (bx du : Int → Int) (al : Al8) (hI : IM S cnt hp ht ses bx du al M) (hw : WF t S cnt hp ht ses bx al) (w : Int) : Ex d m_X8_told [vR 32, vI w] M (PQ S cnt hp ht ses bx du al (aTld S cnt hp ses w) M) := by
  refine Ex_leaf (Nat.le_of_ble_eq_true rfl) (fun C K hK => ?_)
  show K 0 [some (vR 32), some (vI w)] [] M
  have hK : ra_Clo _ m_X8_told cX8_told _ K := hK
  have hI0 := hI
  obtain ⟨hs, ⟨g14, g40, g41⟩, ⟨g15, g35, g36⟩, hF, hL⟩ := hI
  obtain ⟨hS, hc, hnn, hh, hse, hbx, hal⟩ := hw
  obtain ⟨e5, e6, e7, e8, e9⟩ := scM_e hs
  obtain ⟨a2, a3, a4, a5, a6⟩ := scM_a hs
  have hs0 := hS.1
  have hs1 := hS.2.1
  have hs2 := hS.2.2.1
  refine k_aln hK (q := 1)  dX8_told_0 rfl (z := 32) rfl (k_ic hK (q := 2)  dX8_told_1 rfl (by decide) (k_pI hK (q := 5) (M2 := up M 32 34 0) dX8_told_2 rfl rp_X8_83 rfl rfl rfl (k_iln hK (q := 6)  dX8_told_5 rfl (z := w) rfl ?_)))
  refine k_iflt hK (q := 9) (t := 15) dX8_told_6 rfl rfl (fun h6 => ?_) (fun h6 => ?_)
  · refine k_bp hK (q := 17)  dX8_told_15 rfl (by decide) ?_
    refine k_ir hK dX8_told_17 rfl ?_
    refine PQ_same ?_ hI0
    unfold aTld
    rw [if_neg (by omega), if_neg (by omega), if_neg (by omega), if_neg (by omega), if_neg (by omega), if_neg (by omega), if_neg (by omega), if_neg (by omega), if_neg (by omega)]
  · refine k_iln hK (q := 10)  dX8_told_9 rfl (z := w) rfl (k_bp hK (q := 12)  dX8_told_10 rfl (by decide) ?_)
    refine k_cle hK (q := 15) (t := 18) dX8_told_12 rfl rfl (fun h12 => ?_) (fun h12 => ?_)
    · refine k_iln hK (q := 19)  dX8_told_18 rfl (z := w) rfl ?_
      refine k_ifne hK (q := 22) (t := 29) dX8_told_19 rfl rfl (fun h19 => ?_) (fun h19 => ?_)
      · refine k_iln hK (q := 30)  dX8_told_29 rfl (z := w) rfl (k_ic hK (q := 31)  dX8_told_30 rfl (by decide) ?_)
        refine k_cne hK (q := 34) (t := 41) dX8_told_31 rfl rfl (fun h31 => ?_) (fun h31 => ?_)
        · refine k_iln hK (q := 42)  dX8_told_41 rfl (z := w) rfl (k_ic hK (q := 43)  dX8_told_42 rfl (by decide) ?_)
          refine k_cne hK (q := 46) (t := 53) dX8_told_43 rfl rfl (fun h43 => ?_) (fun h43 => ?_)
          · refine k_iln hK (q := 54)  dX8_told_53 rfl (z := w) rfl (k_ic hK (q := 55)  dX8_told_54 rfl (by decide) ?_)
            refine k_cne hK (q := 58) (t := 65) dX8_told_55 rfl rfl (fun h55 => ?_) (fun h55 => ?_)
            · refine k_iln hK (q := 66)  dX8_told_65 rfl (z := w) rfl (k_ic hK (q := 67)  dX8_told_66 rfl (by decide) ?_)
              refine k_cne hK (q := 70) (t := 77) dX8_told_67 rfl rfl (fun h67 => ?_) (fun h67 => ?_)
              · refine k_iln hK (q := 78)  dX8_told_77 rfl (z := w) rfl (k_ic hK (q := 79)  dX8_told_78 rfl (by decide) ?_)
                refine k_cne hK (q := 82) (t := 89) dX8_told_79 rfl rfl (fun h79 => ?_) (fun h79 => ?_)
                · refine k_iln hK (q := 90)  dX8_told_89 rfl (z := w) rfl (k_bp hK (q := 92)  dX8_told_90 rfl (by decide) ?_)
                  refine k_cne hK (q := 95) (t := 102) dX8_told_92 rfl rfl (fun h92 => ?_) (fun h92 => ?_)
                  · refine k_iln hK (q := 103)  dX8_told_102 rfl (z := w) rfl (k_bp hK (q := 105)  dX8_told_103 rfl (by decide) ?_)
                    refine k_cne hK (q := 108) (t := 115) dX8_told_105 rfl rfl (fun h105 => ?_) (fun h105 => ?_)
                    · refine k_aln hK (q := 116)  dX8_told_115 rfl (z := 32) rfl (k_gI hK (q := 119) (z := M 32 11) 0 dX8_told_116 rfl rf_X8_92 rfl rfl rfl rfl ?_)
                      refine k_ir hK dX8_told_119 rfl ?_
                      refine PQ_same ?_ hI0
                      unfold aTld
                      rw [if_neg (by omega), if_neg (by omega), if_neg (by omega), if_neg (by omega), if_neg (by omega), if_neg (by omega), if_neg (by omega), if_neg (by omega), if_pos (by omega)]
                      exact e9
                    · refine k_aln hK (q := 109)  dX8_told_108 rfl (z := 32) rfl (k_gI hK (q := 112) (z := M 32 9) 0 dX8_told_109 rfl rf_X8_32 rfl rfl rfl rfl (k_goto hK (t := 119) dX8_told_112 rfl ?_))
                      refine k_ir hK dX8_told_119 rfl ?_
                      refine PQ_same ?_ hI0
                      unfold aTld
                      rw [if_neg (by omega), if_neg (by omega), if_neg (by omega), if_neg (by omega), if_neg (by omega), if_neg (by omega), if_neg (by omega), if_pos (by omega)]
                      exact e8
                  · refine k_aln hK (q := 96)  dX8_told_95 rfl (z := 32) rfl (k_gI hK (q := 99) (z := M 32 8) 0 dX8_told_96 rfl rf_X8_28 rfl rfl rfl rfl (k_goto hK (t := 119) dX8_told_99 rfl ?_))
                    refine k_ir hK dX8_told_119 rfl ?_
                    refine PQ_same ?_ hI0
                    unfold aTld
                    rw [if_neg (by omega), if_neg (by omega), if_neg (by omega), if_neg (by omega), if_neg (by omega), if_neg (by omega), if_pos (by omega)]
                    exact e7
                · refine k_aln hK (q := 83)  dX8_told_82 rfl (z := 32) rfl (k_gI hK (q := 86) (z := M 32 22) 0 dX8_told_83 rfl rf_X8_127 rfl rfl rfl rfl (k_goto hK (t := 119) dX8_told_86 rfl ?_))
                  refine k_ir hK dX8_told_119 rfl ?_
                  refine PQ_same ?_ hI0
                  unfold aTld
                  rw [if_neg (by omega), if_neg (by omega), if_neg (by omega), if_neg (by omega), if_neg (by omega), if_pos (by omega)]
                  exact hF.2.2.1
              · refine k_aln hK (q := 71)  dX8_told_70 rfl (z := 32) rfl (k_gI hK (q := 74) (z := M 32 15) 0 dX8_told_71 rfl rf_X8_95 rfl rfl rfl rfl (k_goto hK (t := 119) dX8_told_74 rfl ?_))
                refine k_ir hK dX8_told_119 rfl ?_
                refine PQ_same ?_ hI0
                unfold aTld
                rw [if_neg (by omega), if_neg (by omega), if_neg (by omega), if_neg (by omega), if_pos (by omega)]
                exact g15
            · refine k_aln hK (q := 59)  dX8_told_58 rfl (z := 32) rfl (k_gI hK (q := 62) (z := M 32 19) 0 dX8_told_59 rfl rf_X8_124 rfl rfl rfl rfl (k_goto hK (t := 119) dX8_told_62 rfl ?_))
              refine k_ir hK dX8_told_119 rfl ?_
              refine PQ_same ?_ hI0
              unfold aTld
              rw [if_neg (by omega), if_neg (by omega), if_neg (by omega), if_pos (by omega)]
              exact hF.2.1
          · refine k_aln hK (q := 47)  dX8_told_46 rfl (z := 32) rfl (k_gI hK (q := 50) (z := M 32 14) 0 dX8_told_47 rfl rf_X8_101 rfl rfl rfl rfl (k_goto hK (t := 119) dX8_told_50 rfl ?_))
            refine k_ir hK dX8_told_119 rfl ?_
            refine PQ_same ?_ hI0
            unfold aTld
            rw [if_neg (by omega), if_neg (by omega), if_pos (by omega)]
            exact g14
        · refine k_aln hK (q := 35)  dX8_told_34 rfl (z := 32) rfl (k_gI hK (q := 38) (z := M 32 7) 0 dX8_told_35 rfl rf_X8_89 rfl rfl rfl rfl (k_goto hK (t := 119) dX8_told_38 rfl ?_))
          refine k_ir hK dX8_told_119 rfl ?_
          refine PQ_same ?_ hI0
          unfold aTld
          rw [if_neg (by omega), if_pos (by omega)]
          exact e6
      · refine k_aln hK (q := 23)  dX8_told_22 rfl (z := 32) rfl (k_gI hK (q := 26) (z := M 32 4) 0 dX8_told_23 rfl rf_X8_86 rfl rfl rfl rfl (k_goto hK (t := 119) dX8_told_26 rfl ?_))
        refine k_ir hK dX8_told_119 rfl ?_
        refine PQ_same ?_ hI0
        unfold aTld
        rw [if_pos (by omega)]
        exact e5
    · refine k_bp hK (q := 17)  dX8_told_15 rfl (by decide) ?_
      refine k_ir hK dX8_told_17 rfl ?_
      refine PQ_same ?_ hI0
      unfold aTld
      rw [if_neg (by omega), if_neg (by omega), if_neg (by omega), if_neg (by omega), if_neg (by omega), if_neg (by omega), if_neg (by omega), if_neg (by omega), if_neg (by omega)]

set_option maxRecDepth 20000 in
set_option maxHeartbeats 2000000 in
theorem due_in {C : Nat → List ra_V → ra_M → (Option ra_V → ra_M → Prop) → Prop} {Q : Option ra_V → ra_M → Prop} {K : Nat → ra_L → List ra_V → ra_M → Prop} (hK : ra_Clo C m_X8_due cX8_due Q K) {M : ra_M} {k ses : Int} {bx du : Int → Int} {nn b : Nat} (hn : nn ≤ 60) (hk : 0 ≤ k ∧ k ≤ 2147483647) (hb : b ≤ 5) (h4 : M 32 4 = (nn : Nat)) (g15 : M 32 15 = ses) (g35 : M 35 = bx) (g36 : M 36 = du)
    (hX : ∀ l is : Int, dN ses bx du (b : Nat) nn (dB ses bx du nn b (k, -1)) = (l, is) → ∀ z, K 83 [some (vR 32), some (vI k), some (vI l), some (vI is), some (vI (b : Nat)), some (vI z)] [] (up M 32 34 0)) :
    ∀ (n i : Nat) (l is : Int), i + n = nn → dN ses bx du (b : Nat) i (dB ses bx du nn b (k, -1)) = (l, is) → K 28 [some (vR 32), some (vI k), some (vI l), some (vI is), some (vI (b : Nat)), some (vI (i : Nat))] [] (up M 32 34 0) := by
  intro n
  induction n with
  | zero =>
    intro i l is hi hd
    refine k_il hK (q := 30)  dX8_due_28 rfl (z := (i : Nat)) rfl (k_aln hK (q := 31)  dX8_due_30 rfl (z := 32) rfl (k_gI hK (q := 34) (z := M 32 4) 0 dX8_due_31 rfl rf_X8_86 rfl rfl rfl rfl ?_))
    refine k_cge hK (q := 37) (t := 83) dX8_due_34 rfl rfl (fun h34 => ?_) (fun h34 => ?_)
    · have hi2 : i = nn := by omega
      subst hi2
      exact hX l is hd _
    · exact absurd h34 (by omega)
  | succ n ih =>
    intro i l is hi hd
    have hb1 := dB_in ses bx du nn (k, -1) hn b
    have hb2 := dN_in ses bx du (b : Nat) (dB ses bx du nn b (k, -1)) i
    rw [hd] at hb2
    simp only at hb1 hb2
    refine k_il hK (q := 30)  dX8_due_28 rfl (z := (i : Nat)) rfl (k_aln hK (q := 31)  dX8_due_30 rfl (z := 32) rfl (k_gI hK (q := 34) (z := M 32 4) 0 dX8_due_31 rfl rf_X8_86 rfl rfl rfl rfl ?_))
    refine k_cge hK (q := 37) (t := 83) dX8_due_34 rfl rfl (fun h34 => ?_) (fun h34 => ?_)
    · exact absurd h34 (by omega)
    · refine k_aln hK (q := 38)  dX8_due_37 rfl (z := 32) rfl (k_gR hK (q := 41) (r := 35) dX8_due_38 rfl rf_X8_16 rfl rfl (k_il hK (q := 43)  dX8_due_41 rfl (z := (i : Nat)) rfl (k_ald hK (q := 44)  dX8_due_43 rfl (y := M 35 (i : Nat)) rfl (by omega) rfl (k_il hK (q := 46)  dX8_due_44 rfl (z := (b : Nat)) rfl ?_))))
      refine k_cne hK (q := 49) (t := 77) dX8_due_46 rfl rfl (fun h46 => ?_) (fun h46 => ?_)
      · refine k_inc hK (q := 80)  dX8_due_77 rfl (y := (i : Nat) + 1) (L2 := [some (vR 32), some (vI k), some (vI l), some (vI is), some (vI (b : Nat)), some (vI ((i : Nat) + 1))]) rfl rfl (by omega) rfl (k_goto hK (t := 28) dX8_due_80 rfl ?_)
        refine ih (i + 1) l is (by omega) ?_
        simp only [dN]
        rw [hd]
        unfold dS
        rw [if_neg (by rw [← g35, ← g36]; omega)]
      · refine k_aln hK (q := 50)  dX8_due_49 rfl (z := 32) rfl (k_gR hK (q := 53) (r := 36) dX8_due_50 rfl rf_X8_19 rfl rfl (k_il hK (q := 55)  dX8_due_53 rfl (z := (i : Nat)) rfl (k_ald hK (q := 56)  dX8_due_55 rfl (y := M 36 (i : Nat)) rfl (by omega) rfl (k_aln hK (q := 57)  dX8_due_56 rfl (z := 32) rfl (k_gI hK (q := 60) (z := M 32 15) 0 dX8_due_57 rfl rf_X8_95 rfl rfl rfl rfl ?_)))))
        refine k_cgt hK (q := 63) (t := 77) dX8_due_60 rfl rfl (fun h60 => ?_) (fun h60 => ?_)
        · refine k_inc hK (q := 80)  dX8_due_77 rfl (y := (i : Nat) + 1) (L2 := [some (vR 32), some (vI k), some (vI l), some (vI is), some (vI (b : Nat)), some (vI ((i : Nat) + 1))]) rfl rfl (by omega) rfl (k_goto hK (t := 28) dX8_due_80 rfl ?_)
          refine ih (i + 1) l is (by omega) ?_
          simp only [dN]
          rw [hd]
          unfold dS
          rw [if_neg (by rw [← g35, ← g36]; omega)]
        · refine k_iln hK (q := 64)  dX8_due_63 rfl (z := l) rfl ?_
          refine k_ifne hK (q := 67) (t := 72) dX8_due_64 rfl rfl (fun h64 => ?_) (fun h64 => ?_)
          · refine k_iln hK (q := 73)  dX8_due_72 rfl (z := is) rfl (k_isn hK (q := 74)  dX8_due_73 rfl (L2 := [some (vR 32), some (vI k), some (vI l), some (vI is), some (vI (b : Nat)), some (vI (i : Nat))]) (Nat.le_of_ble_eq_true rfl) rfl (k_inc hK (q := 77)  dX8_due_74 rfl (y := l + (-1)) (L2 := [some (vR 32), some (vI k), some (vI (l + (-1))), some (vI is), some (vI (b : Nat)), some (vI (i : Nat))]) rfl rfl (by omega) rfl (k_inc hK (q := 80)  dX8_due_77 rfl (y := (i : Nat) + 1) (L2 := [some (vR 32), some (vI k), some (vI (l + (-1))), some (vI is), some (vI (b : Nat)), some (vI ((i : Nat) + 1))]) rfl rfl (by omega) rfl (k_goto hK (t := 28) dX8_due_80 rfl ?_))))
            refine ih (i + 1) _ _ (by omega) ?_
            simp only [dN]
            rw [hd]
            unfold dS
            rw [if_pos (by rw [← g35, ← g36]; omega)]
            simp only
            rw [if_neg h64]
            congr 1
          · refine k_il hK (q := 69)  dX8_due_67 rfl (z := (i : Nat)) rfl (k_goto hK (t := 73) dX8_due_69 rfl (k_isn hK (q := 74)  dX8_due_73 rfl (L2 := [some (vR 32), some (vI k), some (vI l), some (vI (i : Nat)), some (vI (b : Nat)), some (vI (i : Nat))]) (Nat.le_of_ble_eq_true rfl) rfl (k_inc hK (q := 77)  dX8_due_74 rfl (y := l + (-1)) (L2 := [some (vR 32), some (vI k), some (vI (l + (-1))), some (vI (i : Nat)), some (vI (b : Nat)), some (vI (i : Nat))]) rfl rfl (by omega) rfl (k_inc hK (q := 80)  dX8_due_77 rfl (y := (i : Nat) + 1) (L2 := [some (vR 32), some (vI k), some (vI (l + (-1))), some (vI (i : Nat)), some (vI (b : Nat)), some (vI ((i : Nat) + 1))]) rfl rfl (by omega) rfl (k_goto hK (t := 28) dX8_due_80 rfl ?_)))))
            refine ih (i + 1) _ _ (by omega) ?_
            simp only [dN]
            rw [hd]
            unfold dS
            rw [if_pos (by rw [← g35, ← g36]; omega)]
            simp only
            rw [if_pos h64]
            congr 1

set_option maxRecDepth 20000 in
set_option maxHeartbeats 2000000 in
theorem due_out {C : Nat → List ra_V → ra_M → (Option ra_V → ra_M → Prop) → Prop} {Q : Option ra_V → ra_M → Prop} {K : Nat → ra_L → List ra_V → ra_M → Prop} (hK : ra_Clo C m_X8_due cX8_due Q K) {M : ra_M} {k ses : Int} {bx du : Int → Int} {nn : Nat} (hn : nn ≤ 60) (hk : 0 ≤ k ∧ k ≤ 2147483647) (h4 : M 32 4 = (nn : Nat)) (g15 : M 32 15 = ses) (g35 : M 35 = bx) (g36 : M 36 = du) (hQ : Q (some (vI (dB ses bx du nn 6 (k, -1)).2)) (up M 32 34 0)) :
    ∀ (n b : Nat) (l is : Int), b + n = 6 → dB ses bx du nn b (k, -1) = (l, is) → K 19 [some (vR 32), some (vI k), some (vI l), some (vI is), some (vI (b : Nat)), none] [] (up M 32 34 0) := by
  intro n
  induction n with
  | zero =>
    intro b l is hb hd
    refine k_il hK (q := 21)  dX8_due_19 rfl (z := (b : Nat)) rfl (k_ic hK (q := 22)  dX8_due_21 rfl (by decide) ?_)
    refine k_cgt hK (q := 25) (t := 89) dX8_due_22 rfl rfl (fun h22 => ?_) (fun h22 => ?_)
    · refine k_iln hK (q := 90)  dX8_due_89 rfl (z := is) rfl ?_
      refine k_ir hK dX8_due_90 rfl ?_
      have hb2 : b = 6 := by omega
      subst hb2
      have g3 : (dB ses bx du nn 6 (k, -1)).2 = is := by rw [hd]
      rw [g3] at hQ
      exact hQ
    · exact absurd h22 (by omega)
  | succ n ih =>
    intro b l is hb hd
    refine k_il hK (q := 21)  dX8_due_19 rfl (z := (b : Nat)) rfl (k_ic hK (q := 22)  dX8_due_21 rfl (by decide) ?_)
    refine k_cgt hK (q := 25) (t := 89) dX8_due_22 rfl rfl (fun h22 => ?_) (fun h22 => ?_)
    · exact absurd h22 (by omega)
    · refine k_ic hK (q := 26)  dX8_due_25 rfl (by decide) (k_is hK (q := 28)  dX8_due_26 rfl (L2 := [some (vR 32), some (vI k), some (vI l), some (vI is), some (vI (b : Nat)), some (vI 0)]) (Nat.le_of_ble_eq_true rfl) rfl ?_)
      refine due_in hK hn hk (b := b) (by omega) h4 g15 g35 g36 (fun l2 is2 hd2 z => ?_) nn 0 l is (by omega) (by rw [show dN ses bx du (b : Nat) 0 (dB ses bx du nn b (k, -1)) = dB ses bx du nn b (k, -1) from rfl]; exact hd)
      refine k_inc hK (q := 86)  dX8_due_83 rfl (y := (b : Nat) + 1) (L2 := [some (vR 32), some (vI k), some (vI l2), some (vI is2), some (vI ((b : Nat) + 1)), some (vI z)]) rfl rfl (by omega) rfl (k_goto hK (t := 19) dX8_due_86 rfl ?_)
      refine k_weak hK (L2 := [some (vR 32), some (vI k), some (vI l2), some (vI is2), some (vI ((b : Nat) + 1)), none]) ⟨Or.inl rfl, Or.inl rfl, Or.inl rfl, Or.inl rfl, Or.inl rfl, Or.inr rfl, trivial⟩ ?_
      exact ih (b + 1) l2 is2 (by omega) hd2

set_option maxRecDepth 20000 in
set_option maxHeartbeats 2000000 in
theorem xm_due (d t : Nat) (M : ra_M) (S : Sc) (cnt : Int) (hp ht : Int → Int) (ses : Int) (bx du : Int → Int) (al : Al8) (hI : IM S cnt hp ht ses bx du al M) (hw : WF t S cnt hp ht ses bx al) (k : Int) (hk : k ≤ 2147483647) : Ex d m_X8_due [vR 32, vI k] M (PQ S cnt hp ht ses bx du al (aDue S ses bx du k) M) := by
  refine Ex_leaf (Nat.le_of_ble_eq_true rfl) (fun C K hK => ?_)
  show K 0 [some (vR 32), some (vI k), none, none, none, none] [] M
  have hK : ra_Clo _ m_X8_due cX8_due _ K := hK
  have hI0 := hI
  obtain ⟨hs, ⟨g14, g40, g41⟩, ⟨g15, g35, g36⟩, hF, hL⟩ := hI
  obtain ⟨hS, hc, hnn, hh, hse, hbx, hal⟩ := hw
  obtain ⟨e5, e6, e7, e8, e9⟩ := scM_e hs
  obtain ⟨a2, a3, a4, a5, a6⟩ := scM_a hs
  have hs0 := hS.1
  have hs1 := hS.2.1
  have hs2 := hS.2.2.1
  refine k_aln hK (q := 1)  dX8_due_0 rfl (z := 32) rfl (k_ic hK (q := 2)  dX8_due_1 rfl (by decide) (k_pI hK (q := 5) (M2 := up M 32 34 0) dX8_due_2 rfl rp_X8_83 rfl rfl rfl (k_iln hK (q := 6)  dX8_due_5 rfl (z := k) rfl ?_)))
  refine k_ifge hK (q := 9) (t := 12) dX8_due_6 rfl rfl (fun h6 => ?_) (fun h6 => ?_)
  · refine k_iln hK (q := 13)  dX8_due_12 rfl (z := k) rfl (k_isn hK (q := 14)  dX8_due_13 rfl (L2 := [some (vR 32), some (vI k), some (vI k), none, none, none]) (Nat.le_of_ble_eq_true rfl) rfl (k_ic hK (q := 15)  dX8_due_14 rfl (by decide) (k_isn hK (q := 16)  dX8_due_15 rfl (L2 := [some (vR 32), some (vI k), some (vI k), some (vI (-1)), none, none]) (Nat.le_of_ble_eq_true rfl) rfl (k_ic hK (q := 17)  dX8_due_16 rfl (by decide) (k_is hK (q := 19)  dX8_due_17 rfl (L2 := [some (vR 32), some (vI k), some (vI k), some (vI (-1)), some (vI 0), none]) (Nat.le_of_ble_eq_true rfl) rfl ?_)))))
    refine due_out hK (nn := (S 0 0).toNat) (by omega) (by omega) (by omega) g15 g35 g36 (PQ_same ?_ hI0) 6 0 k (-1) (by omega) rfl
    unfold aDue dueF
    rw [if_neg (by omega)]
  · refine k_bp hK (q := 11)  dX8_due_9 rfl (by decide) ?_
    refine k_ir hK dX8_due_11 rfl ?_
    refine PQ_same ?_ hI0
    unfold aDue
    rw [if_pos (by omega)]
