/-! the reference: end -/
set_option maxRecDepth 20000 in
set_option maxHeartbeats 2000000 in
theorem mend_loop {d : Nat} {Q : Option ra_V → ra_M → Prop} {K : Nat → ra_L → List ra_V → ra_M → Prop} (hK : ra_Clo (Ex d) m_X8_end cX8_end Q K) {S : Sc} (hS : okSc S) {hp : Int → Int} {cnt : Int} (hcnt : cnt ≤ 120) {ls : List St4} (hl : ls.length ≤ 7320) (hm : ∀ s ∈ ls, (s.1 = 2 ∧ s.2.2.1 = -1) ∨ ((s.1 = 0 ∨ s.1 = 1 ∨ s.1 = 3) ∧ 0 ≤ s.2.2.1 ∧ s.2.2.1 < cnt)) {ses : Int} (hses : 0 ≤ ses ∧ ses ≤ 100000) {bx du : Int → Int} (hbx : ∀ n, 0 ≤ n → n < 60 → 0 ≤ bx n ∧ bx n ≤ 5) {M0 : ra_M} (hs0 : scM M0 = S) (h400 : M0 40 = hp) (h150 : M0 32 15 = ses) (hSM0 : SM M0 ls)
    (hX : ∀ M, M 35 = (eBD S hp ls ses (bx, du) (S 0 0).toNat).1 → M 36 = (eBD S hp ls ses (bx, du) (S 0 0).toNat).2 → frM [35, 36] [] M0 M → ∀ z, K 147 [some (vR 32), some (vI z), none, none] [] M) :
    ∀ (n i : Nat) (M : ra_M), i + n = (S 0 0).toNat → M 35 = (eBD S hp ls ses (bx, du) i).1 → M 36 = (eBD S hp ls ses (bx, du) i).2 → frM [35, 36] [] M0 M → K 24 [some (vR 32), some (vI (i : Nat)), none, none] [] M := by
  have hsn := hS.1
  intro n
  induction n with
  | zero =>
    intro i M hi h35 h36 hf
    have hs : scM M = S := by rw [scM_fr hf (by decide) (by decide)]; exact hs0
    obtain ⟨e5, e6, e7, e8, e9⟩ := scM_e hs
    refine k_iln hK (q := 25)  dX8_end_24 rfl (z := (i : Nat)) rfl (k_aln hK (q := 26)  dX8_end_25 rfl (z := 32) rfl (k_gI hK (q := 29) (z := M 32 4) 0 dX8_end_26 rfl rf_X8_86 rfl rfl rfl rfl ?_))
    refine k_cge hK (q := 32) (t := 147) dX8_end_29 rfl rfl (fun h29 => ?_) (fun h29 => ?_)
    · have hi2 : i = (S 0 0).toNat := by omega
      subst hi2
      exact hX M h35 h36 hf _
    · exact absurd h29 (by omega)
  | succ n ih =>
    intro i M hi h35 h36 hf
    have hs : scM M = S := by rw [scM_fr hf (by decide) (by decide)]; exact hs0
    obtain ⟨e5, e6, e7, e8, e9⟩ := scM_e hs
    have h40 : M 40 = hp := by rw [hf.1 40 (by decide) (by decide)]; exact h400
    have g15 : M 32 15 = ses := by rw [hf.2 15 (by simp)]; exact h150
    have hSM : SM M ls := SM_f hSM0 (hf.2 33 (by simp)) (hf.1 50 (by decide) (by decide)) (hf.1 51 (by decide) (by decide)) (hf.1 52 (by decide) (by decide)) (hf.1 53 (by decide) (by decide))
    have hb := eBD_in (S := S) (hp := hp) (ls := ls) (ses := ses) (q := (bx, du)) hbx i (by omega) (i : Nat) (by omega) (by omega)
    rw [← h35] at hb
    refine k_iln hK (q := 25)  dX8_end_24 rfl (z := (i : Nat)) rfl (k_aln hK (q := 26)  dX8_end_25 rfl (z := 32) rfl (k_gI hK (q := 29) (z := M 32 4) 0 dX8_end_26 rfl rf_X8_86 rfl rfl rfl rfl ?_))
    refine k_cge hK (q := 32) (t := 147) dX8_end_29 rfl rfl (fun h29 => ?_) (fun h29 => ?_)
    · exact absurd h29 (by omega)
    · refine k_aln hK (q := 33)  dX8_end_32 rfl (z := 32) rfl (k_iln hK (q := 34)  dX8_end_33 rfl (z := (i : Nat)) rfl (k_ic hK (q := 35)  dX8_end_34 rfl (by decide) ?_))
      refine k_iv2I hK (q := 38) dX8_end_35 rfl rm_X8_183 rfl rfl (Nat.le_of_ble_eq_true rfl) (xm_count _ M (i : Nat) 0 S hs hp h40 (by omega) cnt hcnt ls hSM hl hm) ?_
      rw [show cw S hp (i : Nat) 0 ls = cPl (i : Nat) ls from rfl]
      refine k_isn hK (q := 39)  dX8_end_38 rfl (L2 := [some (vR 32), some (vI (i : Nat)), some (vI (cPl (i : Nat) ls)), none]) (Nat.le_of_ble_eq_true rfl) rfl (k_aln hK (q := 40)  dX8_end_39 rfl (z := 32) rfl (k_iln hK (q := 41)  dX8_end_40 rfl (z := (i : Nat)) rfl (k_ic hK (q := 42)  dX8_end_41 rfl (by decide) ?_)))
      refine k_iv2I hK (q := 45) dX8_end_42 rfl rm_X8_183 rfl rfl (Nat.le_of_ble_eq_true rfl) (xm_count _ M (i : Nat) 2 S hs hp h40 (by omega) cnt hcnt ls hSM hl hm) ?_
      rw [show cw S hp (i : Nat) 2 ls = cPs (i : Nat) ls from rfl]
      refine k_isn hK (q := 46)  dX8_end_45 rfl (L2 := [some (vR 32), some (vI (i : Nat)), some (vI (cPl (i : Nat) ls)), some (vI (cPs (i : Nat) ls))]) (Nat.le_of_ble_eq_true rfl) rfl (k_iln hK (q := 47)  dX8_end_46 rfl (z := (cPl (i : Nat) ls)) rfl ?_)
      refine k_ifle hK (q := 50) (t := 114) dX8_end_47 rfl rfl (fun h47 => ?_) (fun h47 => ?_)
      · refine k_iln hK (q := 115)  dX8_end_114 rfl (z := (cPl (i : Nat) ls)) rfl ?_
        refine k_ifgt hK (q := 118) (t := 122) dX8_end_115 rfl rfl (fun h115 => ?_) (fun h115 => ?_)
        · refine k_aln hK (q := 123)  dX8_end_122 rfl (z := 32) rfl (k_gR hK (q := 126) (r := 35) dX8_end_123 rfl rf_X8_16 rfl rfl (k_iln hK (q := 127)  dX8_end_126 rfl (z := (i : Nat)) rfl (k_ic hK (q := 128)  dX8_end_127 rfl (by decide) (k_ast hK (q := 129)  dX8_end_128 rfl rfl (by omega) (k_aln hK (q := 130)  dX8_end_129 rfl (z := 32) rfl ?_)))))
          refine k_gR hK (q := 133) (r := 36) dX8_end_130 rfl rf_X8_19 rfl rfl (k_iln hK (q := 134)  dX8_end_133 rfl (z := (i : Nat)) rfl (k_aln hK (q := 135)  dX8_end_134 rfl (z := 32) rfl (k_gI hK (q := 138) (z := M 32 15) 0 dX8_end_135 rfl rf_X8_95 rfl rfl rfl rfl (k_ic hK (q := 139)  dX8_end_138 rfl (by decide) (k_add hK (q := 140)  dX8_end_139 rfl (z := (M 32 15) + 1) rfl (by omega) ?_)))))
          refine k_ast hK (q := 141)  dX8_end_140 rfl rfl (by omega) (k_inc hK (q := 144)  dX8_end_141 rfl (y := (i : Nat) + 1) (L2 := [some (vR 32), some (vI ((i : Nat) + 1)), some (vI (cPl (i : Nat) ls)), some (vI (cPs (i : Nat) ls))]) rfl rfl (by omega) rfl (k_goto hK (t := 24) dX8_end_144 rfl ?_))
          refine k_weak hK (L2 := [some (vR 32), some (vI ((i : Nat) + 1)), none, none]) ⟨Or.inl rfl, Or.inl rfl, Or.inr rfl, Or.inr rfl, trivial⟩ ?_
          refine ih (i + 1) _ (by omega) ?_ ?_ (frM_up (frM_up hf _ _ (by decide) (by decide)) _ _ (by decide) (by decide))
          · simp only [eBD]; unfold nBD; rw [if_neg (by omega), if_pos (by omega)]; rw [up_k _ _ _ (by decide), up_fU, h35]
          · simp only [eBD]; unfold nBD; rw [if_neg (by omega), if_pos (by omega)]; rw [up_fU, up_k _ _ _ (by decide), h36, g15]
        · refine k_iln hK (q := 119)  dX8_end_118 rfl (z := (cPs (i : Nat) ls)) rfl ?_
          refine k_ifle hK (q := 122) (t := 141) dX8_end_119 rfl rfl (fun h119 => ?_) (fun h119 => ?_)
          · refine k_inc hK (q := 144)  dX8_end_141 rfl (y := (i : Nat) + 1) (L2 := [some (vR 32), some (vI ((i : Nat) + 1)), some (vI (cPl (i : Nat) ls)), some (vI (cPs (i : Nat) ls))]) rfl rfl (by omega) rfl (k_goto hK (t := 24) dX8_end_144 rfl ?_)
            refine k_weak hK (L2 := [some (vR 32), some (vI ((i : Nat) + 1)), none, none]) ⟨Or.inl rfl, Or.inl rfl, Or.inr rfl, Or.inr rfl, trivial⟩ ?_
            refine ih (i + 1) M (by omega) ?_ ?_ hf
            · simp only [eBD]; unfold nBD; rw [if_neg (by omega), if_neg (by omega)]; exact h35
            · simp only [eBD]; unfold nBD; rw [if_neg (by omega), if_neg (by omega)]; exact h36
          · refine k_aln hK (q := 123)  dX8_end_122 rfl (z := 32) rfl (k_gR hK (q := 126) (r := 35) dX8_end_123 rfl rf_X8_16 rfl rfl (k_iln hK (q := 127)  dX8_end_126 rfl (z := (i : Nat)) rfl (k_ic hK (q := 128)  dX8_end_127 rfl (by decide) (k_ast hK (q := 129)  dX8_end_128 rfl rfl (by omega) (k_aln hK (q := 130)  dX8_end_129 rfl (z := 32) rfl ?_)))))
            refine k_gR hK (q := 133) (r := 36) dX8_end_130 rfl rf_X8_19 rfl rfl (k_iln hK (q := 134)  dX8_end_133 rfl (z := (i : Nat)) rfl (k_aln hK (q := 135)  dX8_end_134 rfl (z := 32) rfl (k_gI hK (q := 138) (z := M 32 15) 0 dX8_end_135 rfl rf_X8_95 rfl rfl rfl rfl (k_ic hK (q := 139)  dX8_end_138 rfl (by decide) (k_add hK (q := 140)  dX8_end_139 rfl (z := (M 32 15) + 1) rfl (by omega) ?_)))))
            refine k_ast hK (q := 141)  dX8_end_140 rfl rfl (by omega) (k_inc hK (q := 144)  dX8_end_141 rfl (y := (i : Nat) + 1) (L2 := [some (vR 32), some (vI ((i : Nat) + 1)), some (vI (cPl (i : Nat) ls)), some (vI (cPs (i : Nat) ls))]) rfl rfl (by omega) rfl (k_goto hK (t := 24) dX8_end_144 rfl ?_))
            refine k_weak hK (L2 := [some (vR 32), some (vI ((i : Nat) + 1)), none, none]) ⟨Or.inl rfl, Or.inl rfl, Or.inr rfl, Or.inr rfl, trivial⟩ ?_
            refine ih (i + 1) _ (by omega) ?_ ?_ (frM_up (frM_up hf _ _ (by decide) (by decide)) _ _ (by decide) (by decide))
            · simp only [eBD]; unfold nBD; rw [if_neg (by omega), if_pos (by omega)]; rw [up_k _ _ _ (by decide), up_fU, h35]
            · simp only [eBD]; unfold nBD; rw [if_neg (by omega), if_pos (by omega)]; rw [up_fU, up_k _ _ _ (by decide), h36, g15]
      · refine k_aln hK (q := 51)  dX8_end_50 rfl (z := 32) rfl (k_iln hK (q := 52)  dX8_end_51 rfl (z := (i : Nat)) rfl (k_ic hK (q := 53)  dX8_end_52 rfl (by decide) ?_))
        refine k_iv2I hK (q := 56) dX8_end_53 rfl rm_X8_183 rfl rfl (Nat.le_of_ble_eq_true rfl) (xm_count _ M (i : Nat) 1 S hs hp h40 (by omega) cnt hcnt ls hSM hl hm) ?_
        rw [show cw S hp (i : Nat) 1 ls = cRt S hp (i : Nat) ls from rfl]
        refine k_iln hK (q := 57)  dX8_end_56 rfl (z := (cPl (i : Nat) ls)) rfl ?_
        refine k_cne hK (q := 60) (t := 114) dX8_end_57 rfl rfl (fun h57 => ?_) (fun h57 => ?_)
        · refine k_iln hK (q := 115)  dX8_end_114 rfl (z := (cPl (i : Nat) ls)) rfl ?_
          refine k_ifgt hK (q := 118) (t := 122) dX8_end_115 rfl rfl (fun h115 => ?_) (fun h115 => ?_)
          · refine k_aln hK (q := 123)  dX8_end_122 rfl (z := 32) rfl (k_gR hK (q := 126) (r := 35) dX8_end_123 rfl rf_X8_16 rfl rfl (k_iln hK (q := 127)  dX8_end_126 rfl (z := (i : Nat)) rfl (k_ic hK (q := 128)  dX8_end_127 rfl (by decide) (k_ast hK (q := 129)  dX8_end_128 rfl rfl (by omega) (k_aln hK (q := 130)  dX8_end_129 rfl (z := 32) rfl ?_)))))
            refine k_gR hK (q := 133) (r := 36) dX8_end_130 rfl rf_X8_19 rfl rfl (k_iln hK (q := 134)  dX8_end_133 rfl (z := (i : Nat)) rfl (k_aln hK (q := 135)  dX8_end_134 rfl (z := 32) rfl (k_gI hK (q := 138) (z := M 32 15) 0 dX8_end_135 rfl rf_X8_95 rfl rfl rfl rfl (k_ic hK (q := 139)  dX8_end_138 rfl (by decide) (k_add hK (q := 140)  dX8_end_139 rfl (z := (M 32 15) + 1) rfl (by omega) ?_)))))
            refine k_ast hK (q := 141)  dX8_end_140 rfl rfl (by omega) (k_inc hK (q := 144)  dX8_end_141 rfl (y := (i : Nat) + 1) (L2 := [some (vR 32), some (vI ((i : Nat) + 1)), some (vI (cPl (i : Nat) ls)), some (vI (cPs (i : Nat) ls))]) rfl rfl (by omega) rfl (k_goto hK (t := 24) dX8_end_144 rfl ?_))
            refine k_weak hK (L2 := [some (vR 32), some (vI ((i : Nat) + 1)), none, none]) ⟨Or.inl rfl, Or.inl rfl, Or.inr rfl, Or.inr rfl, trivial⟩ ?_
            refine ih (i + 1) _ (by omega) ?_ ?_ (frM_up (frM_up hf _ _ (by decide) (by decide)) _ _ (by decide) (by decide))
            · simp only [eBD]; unfold nBD; rw [if_neg (by omega), if_pos (by omega)]; rw [up_k _ _ _ (by decide), up_fU, h35]
            · simp only [eBD]; unfold nBD; rw [if_neg (by omega), if_pos (by omega)]; rw [up_fU, up_k _ _ _ (by decide), h36, g15]
          · refine k_iln hK (q := 119)  dX8_end_118 rfl (z := (cPs (i : Nat) ls)) rfl ?_
            refine k_ifle hK (q := 122) (t := 141) dX8_end_119 rfl rfl (fun h119 => ?_) (fun h119 => ?_)
            · refine k_inc hK (q := 144)  dX8_end_141 rfl (y := (i : Nat) + 1) (L2 := [some (vR 32), some (vI ((i : Nat) + 1)), some (vI (cPl (i : Nat) ls)), some (vI (cPs (i : Nat) ls))]) rfl rfl (by omega) rfl (k_goto hK (t := 24) dX8_end_144 rfl ?_)
              refine k_weak hK (L2 := [some (vR 32), some (vI ((i : Nat) + 1)), none, none]) ⟨Or.inl rfl, Or.inl rfl, Or.inr rfl, Or.inr rfl, trivial⟩ ?_
              refine ih (i + 1) M (by omega) ?_ ?_ hf
              · simp only [eBD]; unfold nBD; rw [if_neg (by omega), if_neg (by omega)]; exact h35
              · simp only [eBD]; unfold nBD; rw [if_neg (by omega), if_neg (by omega)]; exact h36
            · refine k_aln hK (q := 123)  dX8_end_122 rfl (z := 32) rfl (k_gR hK (q := 126) (r := 35) dX8_end_123 rfl rf_X8_16 rfl rfl (k_iln hK (q := 127)  dX8_end_126 rfl (z := (i : Nat)) rfl (k_ic hK (q := 128)  dX8_end_127 rfl (by decide) (k_ast hK (q := 129)  dX8_end_128 rfl rfl (by omega) (k_aln hK (q := 130)  dX8_end_129 rfl (z := 32) rfl ?_)))))
              refine k_gR hK (q := 133) (r := 36) dX8_end_130 rfl rf_X8_19 rfl rfl (k_iln hK (q := 134)  dX8_end_133 rfl (z := (i : Nat)) rfl (k_aln hK (q := 135)  dX8_end_134 rfl (z := 32) rfl (k_gI hK (q := 138) (z := M 32 15) 0 dX8_end_135 rfl rf_X8_95 rfl rfl rfl rfl (k_ic hK (q := 139)  dX8_end_138 rfl (by decide) (k_add hK (q := 140)  dX8_end_139 rfl (z := (M 32 15) + 1) rfl (by omega) ?_)))))
              refine k_ast hK (q := 141)  dX8_end_140 rfl rfl (by omega) (k_inc hK (q := 144)  dX8_end_141 rfl (y := (i : Nat) + 1) (L2 := [some (vR 32), some (vI ((i : Nat) + 1)), some (vI (cPl (i : Nat) ls)), some (vI (cPs (i : Nat) ls))]) rfl rfl (by omega) rfl (k_goto hK (t := 24) dX8_end_144 rfl ?_))
              refine k_weak hK (L2 := [some (vR 32), some (vI ((i : Nat) + 1)), none, none]) ⟨Or.inl rfl, Or.inl rfl, Or.inr rfl, Or.inr rfl, trivial⟩ ?_
              refine ih (i + 1) _ (by omega) ?_ ?_ (frM_up (frM_up hf _ _ (by decide) (by decide)) _ _ (by decide) (by decide))
              · simp only [eBD]; unfold nBD; rw [if_neg (by omega), if_pos (by omega)]; rw [up_k _ _ _ (by decide), up_fU, h35]
              · simp only [eBD]; unfold nBD; rw [if_neg (by omega), if_pos (by omega)]; rw [up_fU, up_k _ _ _ (by decide), h36, g15]
        · refine k_iln hK (q := 61)  dX8_end_60 rfl (z := (cPs (i : Nat) ls)) rfl ?_
          refine k_ifne hK (q := 64) (t := 114) dX8_end_61 rfl rfl (fun h61 => ?_) (fun h61 => ?_)
          · refine k_iln hK (q := 115)  dX8_end_114 rfl (z := (cPl (i : Nat) ls)) rfl ?_
            refine k_ifgt hK (q := 118) (t := 122) dX8_end_115 rfl rfl (fun h115 => ?_) (fun h115 => ?_)
            · refine k_aln hK (q := 123)  dX8_end_122 rfl (z := 32) rfl (k_gR hK (q := 126) (r := 35) dX8_end_123 rfl rf_X8_16 rfl rfl (k_iln hK (q := 127)  dX8_end_126 rfl (z := (i : Nat)) rfl (k_ic hK (q := 128)  dX8_end_127 rfl (by decide) (k_ast hK (q := 129)  dX8_end_128 rfl rfl (by omega) (k_aln hK (q := 130)  dX8_end_129 rfl (z := 32) rfl ?_)))))
              refine k_gR hK (q := 133) (r := 36) dX8_end_130 rfl rf_X8_19 rfl rfl (k_iln hK (q := 134)  dX8_end_133 rfl (z := (i : Nat)) rfl (k_aln hK (q := 135)  dX8_end_134 rfl (z := 32) rfl (k_gI hK (q := 138) (z := M 32 15) 0 dX8_end_135 rfl rf_X8_95 rfl rfl rfl rfl (k_ic hK (q := 139)  dX8_end_138 rfl (by decide) (k_add hK (q := 140)  dX8_end_139 rfl (z := (M 32 15) + 1) rfl (by omega) ?_)))))
              refine k_ast hK (q := 141)  dX8_end_140 rfl rfl (by omega) (k_inc hK (q := 144)  dX8_end_141 rfl (y := (i : Nat) + 1) (L2 := [some (vR 32), some (vI ((i : Nat) + 1)), some (vI (cPl (i : Nat) ls)), some (vI (cPs (i : Nat) ls))]) rfl rfl (by omega) rfl (k_goto hK (t := 24) dX8_end_144 rfl ?_))
              refine k_weak hK (L2 := [some (vR 32), some (vI ((i : Nat) + 1)), none, none]) ⟨Or.inl rfl, Or.inl rfl, Or.inr rfl, Or.inr rfl, trivial⟩ ?_
              refine ih (i + 1) _ (by omega) ?_ ?_ (frM_up (frM_up hf _ _ (by decide) (by decide)) _ _ (by decide) (by decide))
              · simp only [eBD]; unfold nBD; rw [if_neg (by omega), if_pos (by omega)]; rw [up_k _ _ _ (by decide), up_fU, h35]
              · simp only [eBD]; unfold nBD; rw [if_neg (by omega), if_pos (by omega)]; rw [up_fU, up_k _ _ _ (by decide), h36, g15]
            · refine k_iln hK (q := 119)  dX8_end_118 rfl (z := (cPs (i : Nat) ls)) rfl ?_
              refine k_ifle hK (q := 122) (t := 141) dX8_end_119 rfl rfl (fun h119 => ?_) (fun h119 => ?_)
              · refine k_inc hK (q := 144)  dX8_end_141 rfl (y := (i : Nat) + 1) (L2 := [some (vR 32), some (vI ((i : Nat) + 1)), some (vI (cPl (i : Nat) ls)), some (vI (cPs (i : Nat) ls))]) rfl rfl (by omega) rfl (k_goto hK (t := 24) dX8_end_144 rfl ?_)
                refine k_weak hK (L2 := [some (vR 32), some (vI ((i : Nat) + 1)), none, none]) ⟨Or.inl rfl, Or.inl rfl, Or.inr rfl, Or.inr rfl, trivial⟩ ?_
                refine ih (i + 1) M (by omega) ?_ ?_ hf
                · simp only [eBD]; unfold nBD; rw [if_neg (by omega), if_neg (by omega)]; exact h35
                · simp only [eBD]; unfold nBD; rw [if_neg (by omega), if_neg (by omega)]; exact h36
              · refine k_aln hK (q := 123)  dX8_end_122 rfl (z := 32) rfl (k_gR hK (q := 126) (r := 35) dX8_end_123 rfl rf_X8_16 rfl rfl (k_iln hK (q := 127)  dX8_end_126 rfl (z := (i : Nat)) rfl (k_ic hK (q := 128)  dX8_end_127 rfl (by decide) (k_ast hK (q := 129)  dX8_end_128 rfl rfl (by omega) (k_aln hK (q := 130)  dX8_end_129 rfl (z := 32) rfl ?_)))))
                refine k_gR hK (q := 133) (r := 36) dX8_end_130 rfl rf_X8_19 rfl rfl (k_iln hK (q := 134)  dX8_end_133 rfl (z := (i : Nat)) rfl (k_aln hK (q := 135)  dX8_end_134 rfl (z := 32) rfl (k_gI hK (q := 138) (z := M 32 15) 0 dX8_end_135 rfl rf_X8_95 rfl rfl rfl rfl (k_ic hK (q := 139)  dX8_end_138 rfl (by decide) (k_add hK (q := 140)  dX8_end_139 rfl (z := (M 32 15) + 1) rfl (by omega) ?_)))))
                refine k_ast hK (q := 141)  dX8_end_140 rfl rfl (by omega) (k_inc hK (q := 144)  dX8_end_141 rfl (y := (i : Nat) + 1) (L2 := [some (vR 32), some (vI ((i : Nat) + 1)), some (vI (cPl (i : Nat) ls)), some (vI (cPs (i : Nat) ls))]) rfl rfl (by omega) rfl (k_goto hK (t := 24) dX8_end_144 rfl ?_))
                refine k_weak hK (L2 := [some (vR 32), some (vI ((i : Nat) + 1)), none, none]) ⟨Or.inl rfl, Or.inl rfl, Or.inr rfl, Or.inr rfl, trivial⟩ ?_
                refine ih (i + 1) _ (by omega) ?_ ?_ (frM_up (frM_up hf _ _ (by decide) (by decide)) _ _ (by decide) (by decide))
                · simp only [eBD]; unfold nBD; rw [if_neg (by omega), if_pos (by omega)]; rw [up_k _ _ _ (by decide), up_fU, h35]
                · simp only [eBD]; unfold nBD; rw [if_neg (by omega), if_pos (by omega)]; rw [up_fU, up_k _ _ _ (by decide), h36, g15]
          · refine k_aln hK (q := 65)  dX8_end_64 rfl (z := 32) rfl (k_gR hK (q := 68) (r := 35) dX8_end_65 rfl rf_X8_16 rfl rfl (k_iln hK (q := 69)  dX8_end_68 rfl (z := (i : Nat)) rfl (k_aln hK (q := 70)  dX8_end_69 rfl (z := 32) rfl (k_gR hK (q := 73) (r := 35) dX8_end_70 rfl rf_X8_16 rfl rfl (k_iln hK (q := 74)  dX8_end_73 rfl (z := (i : Nat)) rfl ?_)))))
            refine k_ald hK (q := 75)  dX8_end_74 rfl (y := M 35 (i : Nat)) rfl (by omega) rfl (k_ic hK (q := 76)  dX8_end_75 rfl (by decide) ?_)
            refine k_cge hK (q := 79) (t := 90) dX8_end_76 rfl rfl (fun h76 => ?_) (fun h76 => ?_)
            · refine k_ic hK (q := 91)  dX8_end_90 rfl (by decide) (k_ast hK (q := 92)  dX8_end_91 rfl rfl (by omega) (k_aln hK (q := 93)  dX8_end_92 rfl (z := 32) rfl (k_gR hK (q := 96) (r := 36) dX8_end_93 rfl rf_X8_19 rfl rfl (k_iln hK (q := 97)  dX8_end_96 rfl (z := (i : Nat)) rfl (k_aln hK (q := 98)  dX8_end_97 rfl (z := 32) rfl ?_)))))
              refine k_gI hK (q := 101) (z := M 32 15) 0 dX8_end_98 rfl rf_X8_95 rfl rfl rfl rfl (k_ic hK (q := 102)  dX8_end_101 rfl (by decide) (k_aln hK (q := 103)  dX8_end_102 rfl (z := 32) rfl (k_gR hK (q := 106) (r := 35) dX8_end_103 rfl rf_X8_16 rfl rfl (k_iln hK (q := 107)  dX8_end_106 rfl (z := (i : Nat)) rfl (k_ald hK (q := 108)  dX8_end_107 rfl (y := 5) rfl (by omega) (by simp [up]) ?_)))))
              refine k_shl hK (q := 109)  dX8_end_108 rfl (z := sh2 5) (m := 1) (n := (5 : Int).toNat) rfl (by omega) (by omega) (by have h5 := sh2_in (b := 5) (by omega); unfold sh2 at h5; omega) (by unfold sh2; rw [Nat.one_mul]) ?_
              have h5 := sh2_in (b := 5) (by omega)
              refine k_add hK (q := 110)  dX8_end_109 rfl (z := (M 32 15) + (sh2 5)) rfl (by omega) (k_ast hK (q := 111)  dX8_end_110 rfl rfl (by omega) (k_goto hK (t := 141) dX8_end_111 rfl (k_inc hK (q := 144)  dX8_end_141 rfl (y := (i : Nat) + 1) (L2 := [some (vR 32), some (vI ((i : Nat) + 1)), some (vI (cPl (i : Nat) ls)), some (vI (cPs (i : Nat) ls))]) rfl rfl (by omega) rfl (k_goto hK (t := 24) dX8_end_144 rfl ?_))))
              refine k_weak hK (L2 := [some (vR 32), some (vI ((i : Nat) + 1)), none, none]) ⟨Or.inl rfl, Or.inl rfl, Or.inr rfl, Or.inr rfl, trivial⟩ ?_
              have hmn : min 5 (M 35 (i : Nat) + 1) = 5 := by omega
              refine ih (i + 1) _ (by omega) ?_ ?_ (frM_up (frM_up hf _ _ (by decide) (by decide)) _ _ (by decide) (by decide))
              · simp only [eBD]; unfold nBD; rw [if_pos (by omega)]; rw [up_k _ _ _ (by decide), up_fU, ← h35, hmn]
              · simp only [eBD]; unfold nBD; rw [if_pos (by omega)]; rw [up_fU, up_k _ _ _ (by decide), ← h36, ← h35, hmn, g15]
            · refine k_aln hK (q := 80)  dX8_end_79 rfl (z := 32) rfl (k_gR hK (q := 83) (r := 35) dX8_end_80 rfl rf_X8_16 rfl rfl (k_iln hK (q := 84)  dX8_end_83 rfl (z := (i : Nat)) rfl (k_ald hK (q := 85)  dX8_end_84 rfl (y := M 35 (i : Nat)) rfl (by omega) rfl (k_ic hK (q := 86)  dX8_end_85 rfl (by decide) (k_add hK (q := 87)  dX8_end_86 rfl (z := (M 35 (i : Nat)) + 1) rfl (by omega) ?_)))))
              refine k_goto hK (t := 91) dX8_end_87 rfl (k_ast hK (q := 92)  dX8_end_91 rfl rfl (by omega) (k_aln hK (q := 93)  dX8_end_92 rfl (z := 32) rfl (k_gR hK (q := 96) (r := 36) dX8_end_93 rfl rf_X8_19 rfl rfl (k_iln hK (q := 97)  dX8_end_96 rfl (z := (i : Nat)) rfl (k_aln hK (q := 98)  dX8_end_97 rfl (z := 32) rfl ?_)))))
              refine k_gI hK (q := 101) (z := M 32 15) 0 dX8_end_98 rfl rf_X8_95 rfl rfl rfl rfl (k_ic hK (q := 102)  dX8_end_101 rfl (by decide) (k_aln hK (q := 103)  dX8_end_102 rfl (z := 32) rfl (k_gR hK (q := 106) (r := 35) dX8_end_103 rfl rf_X8_16 rfl rfl (k_iln hK (q := 107)  dX8_end_106 rfl (z := (i : Nat)) rfl (k_ald hK (q := 108)  dX8_end_107 rfl (y := (M 35 (i : Nat)) + 1) rfl (by omega) (by simp [up]) ?_)))))
              refine k_shl hK (q := 109)  dX8_end_108 rfl (z := sh2 ((M 35 (i : Nat)) + 1)) (m := 1) (n := ((M 35 (i : Nat)) + 1 : Int).toNat) rfl (by omega) (by omega) (by have h5 := sh2_in (b := (M 35 (i : Nat)) + 1) (by omega); unfold sh2 at h5; omega) (by unfold sh2; rw [Nat.one_mul]) ?_
              have h5 := sh2_in (b := ((M 35 (i : Nat)) + 1)) (by omega)
              refine k_add hK (q := 110)  dX8_end_109 rfl (z := (M 32 15) + (sh2 ((M 35 (i : Nat)) + 1))) rfl (by omega) (k_ast hK (q := 111)  dX8_end_110 rfl rfl (by omega) (k_goto hK (t := 141) dX8_end_111 rfl (k_inc hK (q := 144)  dX8_end_141 rfl (y := (i : Nat) + 1) (L2 := [some (vR 32), some (vI ((i : Nat) + 1)), some (vI (cPl (i : Nat) ls)), some (vI (cPs (i : Nat) ls))]) rfl rfl (by omega) rfl (k_goto hK (t := 24) dX8_end_144 rfl ?_))))
              refine k_weak hK (L2 := [some (vR 32), some (vI ((i : Nat) + 1)), none, none]) ⟨Or.inl rfl, Or.inl rfl, Or.inr rfl, Or.inr rfl, trivial⟩ ?_
              have hmn : min 5 (M 35 (i : Nat) + 1) = (M 35 (i : Nat)) + 1 := by omega
              refine ih (i + 1) _ (by omega) ?_ ?_ (frM_up (frM_up hf _ _ (by decide) (by decide)) _ _ (by decide) (by decide))
              · simp only [eBD]; unfold nBD; rw [if_pos (by omega)]; rw [up_k _ _ _ (by decide), up_fU, ← h35, hmn]
              · simp only [eBD]; unfold nBD; rw [if_pos (by omega)]; rw [up_fU, up_k _ _ _ (by decide), ← h36, ← h35, hmn, g15]

set_option maxRecDepth 20000 in
set_option maxHeartbeats 2000000 in
theorem mend_due {C : Nat → List ra_V → ra_M → (Option ra_V → ra_M → Prop) → Prop} {Q : Option ra_V → ra_M → Prop} {K : Nat → ra_L → List ra_V → ra_M → Prop} (hK : ra_Clo C m_X8_end cX8_end Q K) {M : ra_M} {nn : Nat} (hn : nn ≤ 60) (h4 : M 32 4 = (nn : Nat)) (hQ : Q (some (vI (cDue (M 32 15) (M 36) nn))) M) :
    ∀ (n i : Nat) (c : Int), i + n = nn → c = cDue (M 32 15) (M 36) i → K 165 [some (vR 32), some (vI c), some (vI (i : Nat)), none] [] M := by
  intro n
  induction n with
  | zero =>
    intro i c hi hc
    refine k_iln hK (q := 166)  dX8_end_165 rfl (z := (i : Nat)) rfl (k_aln hK (q := 167)  dX8_end_166 rfl (z := 32) rfl (k_gI hK (q := 170) (z := M 32 4) 0 dX8_end_167 rfl rf_X8_86 rfl rfl rfl rfl ?_))
    refine k_cge hK (q := 173) (t := 200) dX8_end_170 rfl rfl (fun h170 => ?_) (fun h170 => ?_)
    · refine k_iln hK (q := 201)  dX8_end_200 rfl (z := c) rfl ?_
      refine k_ir hK dX8_end_201 rfl ?_
      have hi2 : i = nn := by omega
      subst hi2
      subst hc
      exact hQ
    · exact absurd h170 (by omega)
  | succ n ih =>
    intro i c hi hc
    have hci := cDue_in (M 32 15) (M 36) i
    rw [← hc] at hci
    refine k_iln hK (q := 166)  dX8_end_165 rfl (z := (i : Nat)) rfl (k_aln hK (q := 167)  dX8_end_166 rfl (z := 32) rfl (k_gI hK (q := 170) (z := M 32 4) 0 dX8_end_167 rfl rf_X8_86 rfl rfl rfl rfl ?_))
    refine k_cge hK (q := 173) (t := 200) dX8_end_170 rfl rfl (fun h170 => ?_) (fun h170 => ?_)
    · exact absurd h170 (by omega)
    · refine k_iln hK (q := 174)  dX8_end_173 rfl (z := c) rfl (k_aln hK (q := 175)  dX8_end_174 rfl (z := 32) rfl (k_gR hK (q := 178) (r := 36) dX8_end_175 rfl rf_X8_19 rfl rfl (k_iln hK (q := 179)  dX8_end_178 rfl (z := (i : Nat)) rfl (k_ald hK (q := 180)  dX8_end_179 rfl (y := M 36 (i : Nat)) rfl (by omega) rfl (k_aln hK (q := 181)  dX8_end_180 rfl (z := 32) rfl ?_)))))
      refine k_gI hK (q := 184) (z := M 32 15) 0 dX8_end_181 rfl rf_X8_95 rfl rfl rfl rfl ?_
      refine k_cgt hK (q := 187) (t := 191) dX8_end_184 rfl rfl (fun h184 => ?_) (fun h184 => ?_)
      · refine k_ic hK (q := 192)  dX8_end_191 rfl (by decide) (k_add hK (q := 193)  dX8_end_192 rfl (z := c + 0) rfl (by omega) (k_isn hK (q := 194)  dX8_end_193 rfl (L2 := [some (vR 32), some (vI (c + 0)), some (vI (i : Nat)), none]) (Nat.le_of_ble_eq_true rfl) rfl (k_inc hK (q := 197)  dX8_end_194 rfl (y := (i : Nat) + 1) (L2 := [some (vR 32), some (vI (c + 0)), some (vI ((i : Nat) + 1)), none]) rfl rfl (by omega) rfl (k_goto hK (t := 165) dX8_end_197 rfl ?_))))
        refine ih (i + 1) _ (by omega) ?_
        simp only [cDue]
        rw [if_neg (by omega), ← hc]
      · refine k_ic hK (q := 188)  dX8_end_187 rfl (by decide) (k_goto hK (t := 192) dX8_end_188 rfl (k_add hK (q := 193)  dX8_end_192 rfl (z := c + 1) rfl (by omega) (k_isn hK (q := 194)  dX8_end_193 rfl (L2 := [some (vR 32), some (vI (c + 1)), some (vI (i : Nat)), none]) (Nat.le_of_ble_eq_true rfl) rfl (k_inc hK (q := 197)  dX8_end_194 rfl (y := (i : Nat) + 1) (L2 := [some (vR 32), some (vI (c + 1)), some (vI ((i : Nat) + 1)), none]) rfl rfl (by omega) rfl (k_goto hK (t := 165) dX8_end_197 rfl ?_)))))
        refine ih (i + 1) _ (by omega) ?_
        simp only [cDue]
        rw [if_pos (by omega), ← hc]

set_option maxRecDepth 20000 in
set_option maxHeartbeats 2000000 in
theorem xm_end (d t : Nat) (M : ra_M) (S : Sc) (cnt : Int) (hp ht : Int → Int) (ses : Int) (bx du : Int → Int) (al : Al8) (hI : IM S cnt hp ht ses bx du al M) (hw : WF t S cnt hp ht ses bx al) (ht9 : t ≤ 100000) : Ex (d + 6) m_X8_end [vR 32] M (PM M (aEnd S cnt hp ht ses bx du al)) := by
  refine Ex_call (Nat.le_of_ble_eq_true rfl) (fun K hK => ?_)
  show K 0 [some (vR 32), none, none, none] [] M
  have hK : ra_Clo _ m_X8_end cX8_end _ K := hK
  have hI0 := hI
  obtain ⟨hs, ⟨g14, g40, g41⟩, ⟨g15, g35, g36⟩, hF, hL⟩ := hI
  obtain ⟨hS, hc, hnn, hh, hse, hbx, hal⟩ := hw
  obtain ⟨e5, e6, e7, e8, e9⟩ := scM_e hs
  obtain ⟨a2, a3, a4, a5, a6⟩ := scM_a hs
  have hs0 := hS.1
  have hs1 := hS.2.1
  have hs2 := hS.2.2.1
  have hk9 := mknown hL
  refine k_aln hK (q := 1)  dX8_end_0 rfl (z := 32) rfl (k_ic hK (q := 2)  dX8_end_1 rfl (by decide) (k_pI hK (q := 5) (M2 := up M 32 34 0) dX8_end_2 rfl rp_X8_83 rfl rfl rfl (k_aln hK (q := 6)  dX8_end_5 rfl (z := 32) rfl (k_gI hK (q := 9) (z := M 32 27) 1 dX8_end_6 rfl rf_X8_104 rfl rfl rfl rfl ?_))))
  refine k_ifeq hK (q := 12) (t := 19) dX8_end_9 rfl rfl (fun h9 => ?_) (fun h9 => ?_)
  · have hal0 : al = none := by
      rcases hk9 with h | h
      · exact h.2
      · exact absurd h.1 (by omega)
    subst hal0
    refine k_bp hK (q := 21)  dX8_end_19 rfl (by decide) ?_
    refine k_ir hK dX8_end_21 rfl ?_
    refine PM_same (c := -3) ?_ hI0
    unfold aEnd
    first | rfl | (simp only; rw [if_pos (by omega)])
  · obtain ⟨q, rfl, hSM⟩ : ∃ q, al = some q ∧ SM M q.2 := by
      rcases hk9 with h | h
      · exact absurd h.1 (by omega)
      · exact h.2
    have hA9 := hal q rfl
    have hl9 := AlS_len hA9
    have hm9 := AlS_mem hS hA9
    have y33 := hSM.1
    refine k_aln hK (q := 13)  dX8_end_12 rfl (z := 32) rfl (k_gI hK (q := 16) (z := M 32 14) 0 dX8_end_13 rfl rf_X8_101 rfl rfl rfl rfl ?_)
    refine k_ifne hK (q := 19) (t := 22) dX8_end_16 rfl rfl (fun h16 => ?_) (fun h16 => ?_)
    · refine k_ic hK (q := 23)  dX8_end_22 rfl (by decide) (k_isn hK (q := 24)  dX8_end_23 rfl (L2 := [some (vR 32), some (vI 0), none, none]) (Nat.le_of_ble_eq_true rfl) rfl ?_)
      refine mend_loop hK hS (hp := hp) hc.2 hl9 hm9 (ses := ses) (by omega) (bx := bx) (du := du) hbx (M0 := up M 32 34 0) (by rw [scM_o2 _ _ _ (by decide)]; exact hs) (by rw [up_k _ _ _ (by decide)]; exact g40) (by rw [up_j _ _ (by decide)]; exact g15) (SM_up hSM 0) (fun M4 h35 h36 f4 z => ?_) (S 0 0).toNat 0 _ (by omega) (by rw [up_k _ _ _ (by decide)]; exact g35) (by rw [up_k _ _ _ (by decide)]; exact g36) (frM_refl _ _ _)
      have hs4 : scM M4 = S := by rw [scM_fr f4 (by decide) (by decide), scM_o2 _ _ _ (by decide)]; exact hs
      have g404 : M4 40 = hp := by rw [f4.1 40 (by decide) (by decide), up_k _ _ _ (by decide)]; exact g40
      have g414 : M4 41 = ht := by rw [f4.1 41 (by decide) (by decide), up_k _ _ _ (by decide)]; exact g41
      have y15a : M4 32 15 = ses := by rw [f4.2 15 (by simp), up_j _ _ (by decide)]; exact g15
      refine k_aln hK (q := 148)  dX8_end_147 rfl (z := 32) rfl (k_dup hK (q := 149)  dX8_end_148 rfl rfl (k_gI hK (q := 152) (z := M4 32 15) 0 dX8_end_149 rfl rf_X8_95 rfl rfl rfl rfl (k_ic hK (q := 153)  dX8_end_152 rfl (by decide) (k_add hK (q := 154)  dX8_end_153 rfl (z := (M4 32 15) + 1) rfl (by omega) (k_pI hK (q := 157) (M2 := up M4 32 15 ((M4 32 15) + 1)) dX8_end_154 rfl rp_X8_95 rfl rfl rfl ?_)))))
      refine k_aln hK (q := 158)  dX8_end_157 rfl (z := 32) rfl ?_
      refine k_iv0 hK (q := 161) dX8_end_158 rfl rm_X8_98 rfl rfl (Nat.le_of_ble_eq_true rfl) (xm_fresh _ (up M4 32 15 ((M4 32 15) + 1)) S (by rw [scM_o2 _ _ _ (by decide)]; exact hs4) hS hp ht (by rw [up_k _ _ _ (by decide)]; exact g404) (by rw [up_k _ _ _ (by decide)]; exact g414)) (fun r9 M5 h9 => ?_)
      obtain ⟨rfl, hM5, y14, y27, f5⟩ := h9
      have y15 : M5 32 15 = ses + 1 := by rw [f5.2 15 (by decide), up_same, y15a]
      have y36 : M5 36 = (eBD S hp q.2 ses (bx, du) (S 0 0).toNat).2 := by rw [f5.1 36 (by decide) (by decide), up_k _ _ _ (by decide)]; exact h36
      have y35 : M5 35 = (eBD S hp q.2 ses (bx, du) (S 0 0).toNat).1 := by rw [f5.1 35 (by decide) (by decide), up_k _ _ _ (by decide)]; exact h35
      have hs5 : scM M5 = S := by rw [scM_fr f5 (by decide) (by decide), scM_o2 _ _ _ (by decide)]; exact hs4
      show K 161 [some (vR 32), some (vI z), none, none] [] M5
      refine k_ic hK (q := 162)  dX8_end_161 rfl (by decide) (k_isn hK (q := 163)  dX8_end_162 rfl (L2 := [some (vR 32), some (vI 0), none, none]) (Nat.le_of_ble_eq_true rfl) rfl (k_ic hK (q := 164)  dX8_end_163 rfl (by decide) (k_isn hK (q := 165)  dX8_end_164 rfl (L2 := [some (vR 32), some (vI 0), some (vI 0), none]) (Nat.le_of_ble_eq_true rfl) rfl ?_)))
      refine mend_due hK (nn := (S 0 0).toNat) (by omega) (by rw [(scM_e hs5).1]; omega) ?_ (S 0 0).toNat 0 0 (by omega) rfl
      unfold aEnd
      simp only
      rw [if_neg (by omega), y15, y36]
      refine ⟨rfl, ⟨hs5, ⟨y14, by rw [f5.1 40 (by decide) (by decide), up_k _ _ _ (by decide)]; exact g404, by rw [f5.1 41 (by decide) (by decide), up_k _ _ _ (by decide)]; exact g414⟩, ⟨y15, y35, y36⟩, hM5, y27⟩, fun x hx => ?_⟩
      rw [f5.1 x (by omega) (by simp; omega), up_k _ _ _ (by omega), f4.1 x (by omega) (by simp; omega), up_k _ _ _ (by omega)]
    · refine k_bp hK (q := 21)  dX8_end_19 rfl (by decide) ?_
      refine k_ir hK dX8_end_21 rfl ?_
      refine PM_same (c := -3) ?_ hI0
      unfold aEnd
      first | rfl | (simp only; rw [if_pos (by omega)])
