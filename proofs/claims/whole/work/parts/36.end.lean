/-! the class: end, mean -/
set_option maxRecDepth 20000 in
set_option maxHeartbeats 2000000 in
theorem end_loop {d : Nat} {Q : Option ra_V → ra_M → Prop} {K : Nat → ra_L → List ra_V → ra_M → Prop} (hK : ra_Clo (Ex (d + 1)) m_X7_end cX7_end Q K) {S : Sc} (hS : okSc S) {hp : Int → Int} {ls : List St4} {ses : Int} (hses : 0 ≤ ses ∧ ses ≤ 100000) {bx du : Int → Int} (hbx : ∀ n, 0 ≤ n → n < 60 → 0 ≤ bx n ∧ bx n ≤ 5) {M0 : ra_M} (hs : scC M0 = S) (h29 : M0 29 2 = ses) (hca : CA S hp M0 ls)
    (hX : ∀ M, M 30 = (eBD S hp ls ses (bx, du) (S 0 0).toNat).1 → M 31 = (eBD S hp ls ses (bx, du) (S 0 0).toNat).2 → frX [30, 31] M0 M → ∀ z, K 83 [some (vR 0), some (vI z)] [] M) :
    ∀ (n i : Nat) (M : ra_M), i + n = (S 0 0).toNat → M 30 = (eBD S hp ls ses (bx, du) i).1 → M 31 = (eBD S hp ls ses (bx, du) i).2 → frX [30, 31] M0 M → K 25 [some (vR 0), some (vI (i : Nat))] [] M := by
  have hs0 := hS.1
  intro n
  induction n with
  | zero =>
    intro i M hi h30 h31 hf
    have e5 : M 1 5 = S 0 0 := by rw [hf 1 (by decide)]; exact (scC_e hs).1
    refine k_iln hK (q := 26)  dX7_end_25 rfl (z := (i : Nat)) rfl (k_aln hK (q := 27)  dX7_end_26 rfl (z := 0) rfl (k_gR hK (q := 30) (r := 1) dX7_end_27 rfl rf_X7_12 rfl rfl (k_gI hK (q := 33) (z := M 1 5) 0 dX7_end_30 rfl rf_X7_90 rfl rfl rfl rfl ?_)))
    refine k_cge hK (q := 36) (t := 83) dX7_end_33 rfl rfl (fun h33 => ?_) (fun h33 => ?_)
    · have hi2 : i = (S 0 0).toNat := by omega
      subst hi2
      exact hX M h30 h31 hf _
    · exact absurd h33 (by omega)
  | succ n ih =>
    intro i M hi h30 h31 hf
    have e5 : M 1 5 = S 0 0 := by rw [hf 1 (by decide)]; exact (scC_e hs).1
    have g29 : M 29 2 = ses := by rw [hf 29 (by decide)]; exact h29
    have c1 := hca (i : Nat) (by omega) (by omega)
    rw [← hf 26 (by decide), ← hf 27 (by decide), ← hf 28 (by decide)] at c1
    obtain ⟨c26, c27, c28⟩ := c1
    have hb := eBD_in (S := S) (hp := hp) (ls := ls) (ses := ses) (q := (bx, du)) hbx i (by omega) (i : Nat) (by omega) (by omega)
    refine k_iln hK (q := 26)  dX7_end_25 rfl (z := (i : Nat)) rfl (k_aln hK (q := 27)  dX7_end_26 rfl (z := 0) rfl (k_gR hK (q := 30) (r := 1) dX7_end_27 rfl rf_X7_12 rfl rfl (k_gI hK (q := 33) (z := M 1 5) 0 dX7_end_30 rfl rf_X7_90 rfl rfl rfl rfl ?_)))
    refine k_cge hK (q := 36) (t := 83) dX7_end_33 rfl rfl (fun h33 => ?_) (fun h33 => ?_)
    · exact absurd h33 (by omega)
    · refine k_aln hK (q := 37)  dX7_end_36 rfl (z := 0) rfl (k_gR hK (q := 40) (r := 21) dX7_end_37 rfl rf_X7_53 rfl rfl (k_iln hK (q := 41)  dX7_end_40 rfl (z := (i : Nat)) rfl ?_))
      refine k_iv1I hK (q := 44) dX7_end_41 rfl rm_X7_205 rfl rfl (Nat.le_of_ble_eq_true rfl) (t_isFaultless _ M (i : Nat) (by omega)) ?_
      refine k_ifeq hK (q := 47) (t := 58) dX7_end_44 rfl rfl (fun h44 => ?_) (fun h44 => ?_)
      · have h44 := bi_0.mp h44
        refine k_aln hK (q := 59)  dX7_end_58 rfl (z := 0) rfl (k_gR hK (q := 62) (r := 21) dX7_end_59 rfl rf_X7_53 rfl rfl (k_iln hK (q := 63)  dX7_end_62 rfl (z := (i : Nat)) rfl ?_))
        refine k_iv1I hK (q := 66) dX7_end_63 rfl rm_X7_211 rfl rfl (Nat.le_of_ble_eq_true rfl) (t_isTouched _ M (i : Nat) (by omega)) ?_
        refine k_ifeq hK (q := 69) (t := 77) dX7_end_66 rfl rfl (fun h66 => ?_) (fun h66 => ?_)
        · have h66 := bi_0.mp h66
          refine k_inc hK (q := 80)  dX7_end_77 rfl (y := (i : Nat) + 1) (L2 := [some (vR 0), some (vI ((i : Nat) + 1))]) rfl rfl (by omega) rfl (k_goto hK (t := 25) dX7_end_80 rfl ?_)
          refine ih (i + 1) M (by omega) ?_ ?_ hf
          · simp only [eBD]; unfold nBD; rw [if_neg (by omega), if_neg (by omega)]; exact h30
          · simp only [eBD]; unfold nBD; rw [if_neg (by omega), if_neg (by omega)]; exact h31
        · have h66 := bi_1.mp h66
          refine k_aln hK (q := 70)  dX7_end_69 rfl (z := 0) rfl (k_gR hK (q := 73) (r := 29) dX7_end_70 rfl rf_X7_60 rfl rfl (k_iln hK (q := 74)  dX7_end_73 rfl (z := (i : Nat)) rfl ?_))
          refine k_iv1V hK (q := 77) dX7_end_74 rfl rm_X7_214 rfl rfl (Nat.le_of_ble_eq_true rfl) (t_drop _ M (i : Nat) (by omega) (by omega)) ?_
          refine k_inc hK (q := 80)  dX7_end_77 rfl (y := (i : Nat) + 1) (L2 := [some (vR 0), some (vI ((i : Nat) + 1))]) rfl rfl (by omega) rfl (k_goto hK (t := 25) dX7_end_80 rfl ?_)
          refine ih (i + 1) _ (by omega) ?_ ?_ (frX_up (frX_up hf _ _ (by decide)) _ _ (by decide))
          · simp only [eBD]; unfold nBD; rw [if_neg (by omega), if_pos (by omega)]; rw [up_k _ _ _ (by omega), up_fU, h30]
          · simp only [eBD]; unfold nBD; rw [if_neg (by omega), if_pos (by omega)]; rw [up_fU, up_k _ _ _ (by omega), h31, g29]; rfl
      · have h44 := bi_1.mp h44
        refine k_aln hK (q := 48)  dX7_end_47 rfl (z := 0) rfl (k_gR hK (q := 51) (r := 29) dX7_end_48 rfl rf_X7_60 rfl rfl (k_iln hK (q := 52)  dX7_end_51 rfl (z := (i : Nat)) rfl ?_))
        refine k_iv1V hK (q := 55) dX7_end_52 rfl rm_X7_208 rfl rfl (Nat.le_of_ble_eq_true rfl) (t_raise _ M (i : Nat) (by omega) (by rw [h30]; omega) (by omega)) ?_
        refine k_goto hK (t := 77) dX7_end_55 rfl (k_inc hK (q := 80)  dX7_end_77 rfl (y := (i : Nat) + 1) (L2 := [some (vR 0), some (vI ((i : Nat) + 1))]) rfl rfl (by omega) rfl (k_goto hK (t := 25) dX7_end_80 rfl ?_))
        refine ih (i + 1) _ (by omega) ?_ ?_ (frX_up (frX_up hf _ _ (by decide)) _ _ (by decide))
        · simp only [eBD]; unfold nBD; rw [if_pos (by omega)]; rw [up_k _ _ _ (by omega), up_fU, h30]
        · simp only [eBD]; unfold nBD; rw [if_pos (by omega)]; rw [up_fU, up_k _ _ _ (by omega), h31, g29, h30]

set_option maxRecDepth 20000 in
set_option maxHeartbeats 2000000 in
theorem xc_end (d t : Nat) (M : ra_M) (S : Sc) (cnt : Int) (hp ht : Int → Int) (ses : Int) (bx du : Int → Int) (al : Al8) (hI : IC S cnt hp ht ses bx du al M) (hw : WF t S cnt hp ht ses bx al) (ht9 : t ≤ 100000) : Ex (d + 2) m_X7_end [vR 0] M (PC M (aEnd S cnt hp ht ses bx du al)) := by
  refine Ex_call (Nat.le_of_ble_eq_true rfl) (fun K hK => ?_)
  show K 0 [some (vR 0), none] [] M
  have hK : ra_Clo _ m_X7_end cX7_end _ K := hK
  have hI0 := hI
  obtain ⟨hs, ⟨g7, g8, g9⟩, ⟨g29, g30, g31⟩, hN, hF, hA, hL⟩ := hI
  obtain ⟨hS, hc, hnn, hh, hse, hbx, hal⟩ := hw
  obtain ⟨e5, e6, e7, e8, e9⟩ := scC_e hs
  obtain ⟨a2, a3, a4, a5, a6⟩ := scC_a hs
  have hs0 := hS.1
  have hs1 := hS.2.1
  have hs2 := hS.2.2.1
  have hk9 := known_cases (ht := ht) (ses := ses) (bx := bx) (du := du) hL
  refine k_aln hK (q := 1)  dX7_end_0 rfl (z := 0) rfl (k_gR hK (q := 4) (r := 21) dX7_end_1 rfl rf_X7_53 rfl rfl (k_gI hK (q := 7) (z := M 21 10) 1 dX7_end_4 rfl rf_X7_141 rfl rfl rfl rfl ?_))
  refine k_ifeq hK (q := 10) (t := 20) dX7_end_7 rfl rfl (fun h7 => ?_) (fun h7 => ?_)
  · have hal0 : al = none := by
      rcases hk9 with h | h
      · exact h.2
      · exact absurd h.1 (by omega)
    subst hal0
    clear hk9
    refine k_bp hK (q := 22)  dX7_end_20 rfl (by decide) ?_
    refine k_ir hK dX7_end_22 rfl ?_
    refine PC_same (c := -3) ?_ hI0
    unfold aEnd
    first | rfl | (simp only; rw [if_pos (by omega)])
  · obtain ⟨q, rfl, hsum, hW, hTL⟩ : ∃ q, al = some q ∧ M 21 11 = q.1 ∧ WS S hp M q.2 cnt ∧ (0 < cnt → TL S hp cnt M q.2) := by
      rcases hk9 with h | h
      · exact absurd h.1 (by omega)
      · exact h.2
    clear hk9
    refine k_aln hK (q := 11)  dX7_end_10 rfl (z := 0) rfl (k_gR hK (q := 14) (r := 7) dX7_end_11 rfl rf_X7_19 rfl rfl (k_gI hK (q := 17) (z := M 7 2) 0 dX7_end_14 rfl rf_X7_83 rfl rfl rfl rfl ?_))
    refine k_ifne hK (q := 20) (t := 23) dX7_end_17 rfl rfl (fun h17 => ?_) (fun h17 => ?_)
    · refine k_ic hK (q := 24)  dX7_end_23 rfl (by decide) (k_isn hK (q := 25)  dX7_end_24 rfl (L2 := [some (vR 0), some (vI 0)]) (Nat.le_of_ble_eq_true rfl) rfl ?_)
      refine end_loop hK hS (by omega) hbx hs g29 hW.2.1 (fun M4 h30 h31 f4 z => ?_) (S 0 0).toNat 0 M (by omega) g30 g31 (frX_refl _ _)
      have y29 : M4 29 2 = ses := by rw [f4 29 (by decide)]; exact g29
      refine k_aln hK (q := 84)  dX7_end_83 rfl (z := 0) rfl (k_gR hK (q := 87) (r := 29) dX7_end_84 rfl rf_X7_60 rfl rfl (k_dup hK (q := 88)  dX7_end_87 rfl rfl (k_gI hK (q := 91) (z := M4 29 2) 0 dX7_end_88 rfl rf_X7_67 rfl rfl rfl rfl (k_ic hK (q := 92)  dX7_end_91 rfl (by decide) (k_add hK (q := 93)  dX7_end_92 rfl (z := (M4 29 2) + 1) rfl (by omega) ?_)))))
      refine k_pI hK (q := 96) (M2 := up M4 29 2 ((M4 29 2) + 1)) dX7_end_93 rfl rp_X7_67 rfl rfl rfl (k_aln hK (q := 97)  dX7_end_96 rfl (z := 0) rfl ?_)
      refine k_iv0 hK (q := 100) dX7_end_97 rfl rm_X7_71 rfl rfl (Nat.le_of_ble_eq_true rfl) (xc_hearN _ (up M4 29 2 ((M4 29 2) + 1))) (fun r9 M6 h9 => ?_)
      obtain ⟨rfl, h67, h616, h615, h618, h621, f6⟩ := h9
      have fr : ∀ k, k ∉ [7, 15, 16, 18, 21, 29, 30, 31] → M6 k = M k := by
        intro k hk
        simp only [List.mem_cons, List.not_mem_nil, or_false, not_or] at hk
        rw [f6 k (by simp; omega), up_k _ _ _ (by omega), f4 k (by simp; omega)]
      have x5 : M6 1 5 = S 0 0 := by rw [fr 1 (by decide)]; exact e5
      have x29 : M6 29 2 = ses + 1 := by rw [f6 29 (by decide), up_same, f4 29 (by decide), g29]
      have x30 : M6 30 = (eBD S hp q.2 ses (bx, du) (S 0 0).toNat).1 := by rw [f6 30 (by decide), up_k _ _ _ (by omega)]; exact h30
      have x31 : M6 31 = (eBD S hp q.2 ses (bx, du) (S 0 0).toNat).2 := by rw [f6 31 (by decide), up_k _ _ _ (by omega)]; exact h31
      show K 100 [some (vR 0), some (vI z)] [] M6
      refine k_aln hK (q := 101)  dX7_end_100 rfl (z := 0) rfl (k_gR hK (q := 104) (r := 29) dX7_end_101 rfl rf_X7_60 rfl rfl (k_aln hK (q := 105)  dX7_end_104 rfl (z := 0) rfl (k_gR hK (q := 108) (r := 1) dX7_end_105 rfl rf_X7_12 rfl rfl (k_gI hK (q := 111) (z := M6 1 5) 0 dX7_end_108 rfl rf_X7_90 rfl rfl rfl rfl ?_))))
      refine k_iv1I hK (q := 114) dX7_end_111 rfl rm_X7_217 rfl rfl (Nat.le_of_ble_eq_true rfl) (t_countDue _ M6 (M6 1 5) (by omega)) ?_
      rw [x29, x31, x5]
      refine k_ir hK dX7_end_114 rfl ?_
      unfold aEnd
      simp only
      rw [if_neg (by omega)]
      refine ⟨rfl, ⟨by rw [scC_fr (M := M) (fun x a b => fr x (by simp; omega))]; exact hs, ⟨h67, by rw [fr 8 (by decide)]; exact g8, by rw [fr 9 (by decide)]; exact g9⟩, ⟨x29, x30, x31⟩, fun y => absurd y (by simp), FlC_z h616 h615 (by simp only; omega), AnC_nil h618, h621⟩, fun x hx => ?_⟩
      rw [f6 x (by simp; omega), up_k _ _ _ (by omega), f4 x (by simp; omega)]
    · refine k_bp hK (q := 22)  dX7_end_20 rfl (by decide) ?_
      refine k_ir hK dX7_end_22 rfl ?_
      refine PC_same (c := -3) ?_ hI0
      unfold aEnd
      first | rfl | (simp only; rw [if_pos (by omega)])

def aMea (S : Sc) (hp : Int → Int) (al : Al8) (side : Int) : Int := if ¬ (0 ≤ side ∧ side ≤ 1) then -2 else match al with
  | none => -3
  | some q => low (sumF (fun n => cRt S hp n q.2) (S 0 0).toNat) (sumF (fun n => cPl n q.2) (S 0 0).toNat) side
/-- mean throws -/
def mThr (S : Sc) (al : Al8) (side : Int) : Prop := (0 ≤ side ∧ side ≤ 1) ∧ ∃ q, al = some q ∧ sumF (fun n => cPl n q.2) (S 0 0).toNat = 0
theorem sumF_cong {f g : Int → Int} : ∀ n : Nat, (∀ i : Nat, i < n → f (i : Nat) = g (i : Nat)) → sumF f n = sumF g n := by
  intro n
  induction n with
  | zero => intro _; rfl
  | succ n ih => intro h; simp only [sumF]; rw [ih (fun i hi => h i (by omega)), h n (by omega)]
theorem sumF_in {f : Int → Int} : ∀ n : Nat, (∀ i : Nat, i < n → 0 ≤ f (i : Nat) ∧ f (i : Nat) ≤ 7320) → 0 ≤ sumF f n ∧ sumF f n ≤ 7320 * (n : Nat) := by
  intro n
  induction n with
  | zero => intro _; simp [sumF]
  | succ n ih => intro h; have h1 := ih (fun i hi => h i (by omega)); have h2 := h n (by omega); simp only [sumF]; omega
theorem cPl_in (n : Int) (ls : List St4) (h : ls.length ≤ 7320) : 0 ≤ cPl n ls ∧ cPl n ls ≤ 7320 := by
  unfold cPl
  have := List.countP_le_length (p := fun s : St4 => decide ((s.1 = 0 ∨ s.1 = 3) ∧ s.2.1 = n)) (l := ls)
  omega
theorem cRt_in (S : Sc) (hp : Int → Int) (n : Int) (ls : List St4) (h : ls.length ≤ 7320) : 0 ≤ cRt S hp n ls ∧ cRt S hp n ls ≤ 7320 := by
  unfold cRt
  have := List.countP_le_length (p := fun s : St4 => decide (((s.1 = 0 ∨ s.1 = 3) ∧ S 1 n = hp s.2.2.1) ∧ s.2.1 = n)) (l := ls)
  omega
theorem cPs_in (n : Int) (ls : List St4) (h : ls.length ≤ 7320) : 0 ≤ cPs n ls ∧ cPs n ls ≤ 7320 := by
  unfold cPs
  have := List.countP_le_length (p := fun s : St4 => decide (s.1 = 2 ∧ s.2.1 = n)) (l := ls)
  omega

set_option maxRecDepth 20000 in
set_option maxHeartbeats 2000000 in
theorem xc_mean (d t : Nat) (M : ra_M) (S : Sc) (cnt : Int) (hp ht : Int → Int) (ses : Int) (bx du : Int → Int) (al : Al8) (hI : IC S cnt hp ht ses bx du al M) (hw : WF t S cnt hp ht ses bx al) (side : Int) (hlen : ∀ q, al = some q → q.2.length ≤ 7320) (hno : ¬ mThr S al side) : Ex (d + 2) m_X7_mean [vR 0, vI side] M (fun r M2 => r = some (vI (aMea S hp al side)) ∧ M2 = M) := by
  refine Ex_call (Nat.le_of_ble_eq_true rfl) (fun K hK => ?_)
  show K 0 [some (vR 0), some (vI side), none] [] M
  have hK : ra_Clo _ m_X7_mean cX7_mean _ K := hK
  have hI0 := hI
  obtain ⟨hs, ⟨g7, g8, g9⟩, ⟨g29, g30, g31⟩, hN, hF, hA, hL⟩ := hI
  obtain ⟨hS, hc, hnn, hh, hse, hbx, hal⟩ := hw
  obtain ⟨e5, e6, e7, e8, e9⟩ := scC_e hs
  obtain ⟨a2, a3, a4, a5, a6⟩ := scC_a hs
  have hs0 := hS.1
  have hs1 := hS.2.1
  have hs2 := hS.2.2.1
  have hk9 := known_cases (ht := ht) (ses := ses) (bx := bx) (du := du) hL
  refine k_iln hK (q := 1)  dX7_mean_0 rfl (z := side) rfl (k_ic hK (q := 2)  dX7_mean_1 rfl (by decide) (k_ic hK (q := 3)  dX7_mean_2 rfl (by decide) ?_))
  refine k_st3I hK (q := 6) dX7_mean_3 rfl rm_X7_74 (Nat.le_of_ble_eq_true rfl) (t_isWithin _ M side 0 1) ?_
  refine k_ifne hK (q := 9) (t := 12) dX7_mean_6 rfl rfl (fun h6 => ?_) (fun h6 => ?_)
  · have h6 := bi_1.mp h6
    refine k_aln hK (q := 13)  dX7_mean_12 rfl (z := 0) rfl (k_gR hK (q := 16) (r := 21) dX7_mean_13 rfl rf_X7_53 rfl rfl (k_gI hK (q := 19) (z := M 21 10) 1 dX7_mean_16 rfl rf_X7_141 rfl rfl rfl rfl ?_))
    refine k_ifne hK (q := 22) (t := 25) dX7_mean_19 rfl rfl (fun h19 => ?_) (fun h19 => ?_)
    · obtain ⟨q, rfl, hsum, hW, hTL⟩ : ∃ q, al = some q ∧ M 21 11 = q.1 ∧ WS S hp M q.2 cnt ∧ (0 < cnt → TL S hp cnt M q.2) := by
        rcases hk9 with h | h
        · exact absurd h.1 (by omega)
        · exact h.2
      clear hk9
      have hl9 := hlen q rfl
      have b26 : ∀ i : Nat, i < 60 → (0 ≤ M 26 (i : Nat) ∧ M 26 (i : Nat) ≤ 7320) := fun i hi => by rw [(hW.2.1 (i : Nat) (by omega) (by omega)).1]; exact cPl_in _ _ hl9
      have b27 : ∀ i : Nat, i < 60 → (0 ≤ M 27 (i : Nat) ∧ M 27 (i : Nat) ≤ 7320) := fun i hi => by rw [(hW.2.1 (i : Nat) (by omega) (by omega)).2.1]; exact cRt_in _ _ _ _ hl9
      have s26 : sumF (M 26) (M 1 5).toNat = sumF (fun n => cPl n q.2) (S 0 0).toNat := by rw [e5]; exact sumF_cong _ (fun i hi => (hW.2.1 (i : Nat) (by omega) (by omega)).1)
      have s27 : sumF (M 27) (M 1 5).toNat = sumF (fun n => cRt S hp n q.2) (S 0 0).toNat := by rw [e5]; exact sumF_cong _ (fun i hi => (hW.2.1 (i : Nat) (by omega) (by omega)).2.1)
      have n26 := sumF_in (f := fun n => cPl n q.2) (S 0 0).toNat (fun i hi => cPl_in _ _ hl9)
      have n27 := sumF_in (f := fun n => cRt S hp n q.2) (S 0 0).toNat (fun i hi => cRt_in _ _ _ _ hl9)
      refine k_aln hK (q := 26)  dX7_mean_25 rfl (z := 0) rfl (k_gR hK (q := 29) (r := 21) dX7_mean_26 rfl rf_X7_53 rfl rfl (k_gR hK (q := 32) (r := 26) dX7_mean_29 rfl rf_X7_185 rfl rfl (k_aln hK (q := 33)  dX7_mean_32 rfl (z := 0) rfl (k_gR hK (q := 36) (r := 1) dX7_mean_33 rfl rf_X7_12 rfl rfl (k_gI hK (q := 39) (z := M 1 5) 0 dX7_mean_36 rfl rf_X7_90 rfl rfl rfl rfl ?_)))))
      refine k_st2I hK (q := 42) dX7_mean_39 rfl rm_X7_194 (Nat.le_of_ble_eq_true rfl) (t_sumOfa _ M (M 1 5) (by omega) b26) ?_
      rw [s26]
      refine k_isn hK (q := 43)  dX7_mean_42 rfl (L2 := [some (vR 0), some (vI side), some (vI (sumF (fun n => cPl n q.2) (S 0 0).toNat))]) (Nat.le_of_ble_eq_true rfl) rfl (k_iln hK (q := 44)  dX7_mean_43 rfl (z := (sumF (fun n => cPl n q.2) (S 0 0).toNat)) rfl ?_)
      refine k_ifne hK (q := 47) (t := 57) dX7_mean_44 rfl rfl (fun h44 => ?_) (fun h44 => ?_)
      · refine k_aln hK (q := 58)  dX7_mean_57 rfl (z := 0) rfl (k_gR hK (q := 61) (r := 21) dX7_mean_58 rfl rf_X7_53 rfl rfl (k_gR hK (q := 64) (r := 27) dX7_mean_61 rfl rf_X7_188 rfl rfl (k_aln hK (q := 65)  dX7_mean_64 rfl (z := 0) rfl (k_gR hK (q := 68) (r := 1) dX7_mean_65 rfl rf_X7_12 rfl rfl (k_gI hK (q := 71) (z := M 1 5) 0 dX7_mean_68 rfl rf_X7_90 rfl rfl rfl rfl ?_)))))
        refine k_st2I hK (q := 74) dX7_mean_71 rfl rm_X7_194 (Nat.le_of_ble_eq_true rfl) (t_sumOfb _ M (M 1 5) (by omega) b27) ?_
        rw [s27]
        refine k_iln hK (q := 75)  dX7_mean_74 rfl (z := (sumF (fun n => cPl n q.2) (S 0 0).toNat)) rfl (k_iln hK (q := 76)  dX7_mean_75 rfl (z := side) rfl ?_)
        refine k_st3I hK (q := 79) dX7_mean_76 rfl rm_X7_159 (Nat.le_of_ble_eq_true rfl) (xc_lowest _ M (sumF (fun n => cRt S hp n q.2) (S 0 0).toNat) (sumF (fun n => cPl n q.2) (S 0 0).toNat) side (by omega) (by omega)) ?_
        refine k_ir hK dX7_mean_79 rfl ?_
        refine ⟨?_, rfl⟩
        unfold aMea
        rw [if_neg (by omega)]
      · exact absurd ⟨by omega, q, rfl, h44⟩ hno
    · have hal0 : al = none := by
        rcases hk9 with h | h
        · exact h.2
        · exact absurd h.1 (by omega)
      subst hal0
      clear hk9
      refine k_bp hK (q := 24)  dX7_mean_22 rfl (by decide) ?_
      refine k_ir hK dX7_mean_24 rfl ?_
      refine ⟨?_, rfl⟩
      unfold aMea
      rw [if_neg (by omega)]
  · have h6 := bi_0.mp h6
    refine k_bp hK (q := 11)  dX7_mean_9 rfl (by decide) ?_
    refine k_ir hK dX7_mean_11 rfl ?_
    refine ⟨?_, rfl⟩
    unfold aMea
    rw [if_pos (by omega)]
