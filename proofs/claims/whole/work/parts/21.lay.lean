/-- NEXT of all places is laid -/
def NxA (M : ra_M) (S : Sc) : Prop := NxL M (El S) ∧ ∀ t : Nat, t ≤ (S 0 0).toNat + 1 → M 14 (t : Nat) = ((Eu S t).length : Nat)
theorem NxA_fr {M M2 : ra_M} {S : Sc} (h : NxA M S) (hf : ∀ k, 10 ≤ k → k ≤ 14 → M2 k = M k) : NxA M2 S := ⟨NxL_fr h.1 (hf 10 (by omega) (by omega)) (hf 11 (by omega) (by omega)) (hf 12 (by omega) (by omega)) (hf 13 (by omega) (by omega)), fun t ht => by rw [hf 14 (by omega) (by omega)]; exact h.2 t ht⟩

set_option maxRecDepth 20000 in
set_option maxHeartbeats 2000000 in
theorem lay_loop {d : Nat} {Q : Option ra_V → ra_M → Prop} {K : Nat → ra_L → List ra_V → ra_M → Prop} (hK : ra_Clo (Ex (d + 3)) m_X5_lay cX5_lay Q K) {S : Sc} (hS : okSc S) {M0 : ra_M}
    (hQ : ∀ M2, NxA M2 S → frX [10, 11, 12, 13, 14] M0 M2 → Q none M2) :
    ∀ (n i : Nat) (M : ra_M) (pl : Int), i + n = (S 0 0).toNat + 1 → pl = (i : Int) - 1 → scC M = S → frX [10, 11, 12, 13, 14] M0 M → NxL M (Eu S i) → (∀ t : Nat, t < i → M 14 (t : Nat) = ((Eu S t).length : Nat)) → K 7 [some (vR 10), some (vI pl)] [] M := by
  intro n
  induction n with
  | zero =>
    intro i M pl hi hpl hs hf hn hb
    obtain ⟨e5, e6, e7, e8, e9⟩ := scC_e hs
    have hs0 := hS.1
    refine k_iln hK (q := 8)  dX5_lay_7 rfl (z := pl) rfl (k_aln hK (q := 9)  dX5_lay_8 rfl (z := 10) rfl (k_gR hK (q := 12) (r := 1) dX5_lay_9 rfl rf_X5_24 rfl rfl (k_gI hK (q := 15) (z := M 1 5) 0 dX5_lay_12 rfl rf_X5_32 rfl rfl rfl rfl ?_)))
    refine k_cge hK (q := 18) (t := 57) dX5_lay_15 rfl rfl (fun h15 => ?_) (fun h15 => ?_)
    · refine k_aln hK (q := 58)  dX5_lay_57 rfl (z := 10) rfl (k_gR hK (q := 61) (r := 14) dX5_lay_58 rfl rf_X5_21 rfl rfl (k_aln hK (q := 62)  dX5_lay_61 rfl (z := 10) rfl (k_gR hK (q := 65) (r := 1) dX5_lay_62 rfl rf_X5_24 rfl rfl (k_gI hK (q := 68) (z := M 1 5) 0 dX5_lay_65 rfl rf_X5_32 rfl rfl rfl rfl (k_ic hK (q := 69)  dX5_lay_68 rfl (by decide) ?_)))))
      refine k_add hK (q := 70)  dX5_lay_69 rfl (z := (M 1 5) + 1) rfl (by omega) (k_aln hK (q := 71)  dX5_lay_70 rfl (z := 10) rfl (k_gI hK (q := 74) (z := M 10 5) 0 dX5_lay_71 rfl rf_X5_28 rfl rfl rfl rfl (k_ast hK (q := 75)  dX5_lay_74 rfl rfl (by omega) ?_)))
      refine k_vr hK dX5_lay_75 rfl ?_
      refine hQ _ ?_ ?_
      · refine ⟨?_, fun t ht => ?_⟩
        · have : i = (S 0 0).toNat + 1 := by omega
          subst this
          exact NxL_fr hn (up_k _ _ _ (by decide)) (up_k _ _ _ (by decide)) (up_k _ _ _ (by decide)) (up_k _ _ _ (by decide))
        · by_cases h : t = i
          · subst h
            have e : ((t : Nat) : Int) = M 1 5 + 1 := by omega
            rw [e, up_same, hn.1]
          · rw [up_j _ _ (by omega)]
            exact hb t (by omega)
      · exact frX_up hf _ _ (by decide)
    · exact absurd h15 (by omega)
  | succ n ih =>
    intro i M pl hi hpl hs hf hn hb
    obtain ⟨e5, e6, e7, e8, e9⟩ := scC_e hs
    have hs0 := hS.1
    refine k_iln hK (q := 8)  dX5_lay_7 rfl (z := pl) rfl (k_aln hK (q := 9)  dX5_lay_8 rfl (z := 10) rfl (k_gR hK (q := 12) (r := 1) dX5_lay_9 rfl rf_X5_24 rfl rfl (k_gI hK (q := 15) (z := M 1 5) 0 dX5_lay_12 rfl rf_X5_32 rfl rfl rfl rfl ?_)))
    refine k_cge hK (q := 18) (t := 57) dX5_lay_15 rfl rfl (fun h15 => ?_) (fun h15 => ?_)
    · exact absurd h15 (by omega)
    · refine k_aln hK (q := 19)  dX5_lay_18 rfl (z := 10) rfl (k_gR hK (q := 22) (r := 14) dX5_lay_19 rfl rf_X5_21 rfl rfl (k_iln hK (q := 23)  dX5_lay_22 rfl (z := pl) rfl (k_ic hK (q := 24)  dX5_lay_23 rfl (by decide) (k_add hK (q := 25)  dX5_lay_24 rfl (z := pl + 1) rfl (by omega) (k_aln hK (q := 26)  dX5_lay_25 rfl (z := 10) rfl ?_)))))
      refine k_gI hK (q := 29) (z := M 10 5) 0 dX5_lay_26 rfl rf_X5_28 rfl rfl rfl rfl (k_ast hK (q := 30)  dX5_lay_29 rfl rfl (by omega) ?_)
      have hs1 : scC (up M 14 (pl + 1) (M 10 5)) = S := by rw [scC_fr (M := M) (frX_S (l := [14]) (frX_up (frX_refl _ _) _ _ (by decide)) (by decide))]; exact hs
      have hn1 : NxL (up M 14 (pl + 1) (M 10 5)) (Eu S i) := NxL_fr hn (up_k _ _ _ (by decide)) (up_k _ _ _ (by decide)) (up_k _ _ _ (by decide)) (up_k _ _ _ (by decide))
      have hf1 : frX [10, 11, 12, 13, 14] M0 (up M 14 (pl + 1) (M 10 5)) := frX_up hf _ _ (by decide)
      have hb1 : ∀ t : Nat, t < i + 1 → up M 14 (pl + 1) (M 10 5) 14 (t : Nat) = ((Eu S t).length : Nat) := by
        intro t ht
        by_cases h : t = i
        · subst h
          rw [show ((t : Nat) : Int) = pl + 1 by omega, up_same, hn.1]
        · rw [up_j _ _ (by omega)]
          exact hb t (by omega)
      refine k_iln hK (q := 31)  dX5_lay_30 rfl (z := pl) rfl (k_ic hK (q := 32)  dX5_lay_31 rfl (by decide) ?_)
      refine k_ceq hK (q := 35) (t := 46) dX5_lay_32 rfl rfl (fun h32 => ?_) (fun h32 => ?_)
      · have hp0 : pl = -1 ∨ thr S pl := Or.inl h32
        have hp : pl = -1 ∨ thr S pl := by assumption
        have hEu : Eu S (i + 1) = Eu S i ++ (nx S pl).map (fun q => (pl, q.1, q.2)) := by
          simp only [Eu]
          rw [← hpl]
          rw [if_pos (by rcases hp with h | h; left; omega; right; exact h)]
        have hl1 : (Eu S i).length + (nx S pl).length ≤ 74 := by
          have h1 := Eu_mono S (i + 1) ((S 0 0).toNat + 1) (by omega)
          have h2 := El_len hS
          unfold El at h2
          rw [hEu, List.length_append, List.length_map] at h1
          omega
        refine k_aln hK (q := 47)  dX5_lay_46 rfl (z := 10) rfl (k_iln hK (q := 48)  dX5_lay_47 rfl (z := pl) rfl ?_)
        refine k_iv1 hK (q := 51) dX5_lay_48 rfl rm_X5_41 rfl rfl (Nat.le_of_ble_eq_true rfl) (t_layFrom _ (up M 14 (pl + 1) (M 10 5)) pl S _ hs1 hS hp hn1 (by omega)) (fun r9 M5 h9 => ?_)
        obtain ⟨rfl, hn2, hf2⟩ := h9
        show K 51 [some (vR 10), some (vI pl)] [] M5
        refine k_inc hK (q := 54)  dX5_lay_51 rfl (y := pl + 1) (L2 := [some (vR 10), some (vI (pl + 1))]) rfl rfl (by omega) rfl (k_goto hK (t := 7) dX5_lay_54 rfl ?_)
        refine ih (i + 1) M5 (pl + 1) (by omega) (by omega) (by rw [scC_fr (frX_S hf2 (by decide))]; exact hs1) (frX_trans hf1 (frX_sub hf2 (by decide))) (by rw [hEu]; exact hn2) (fun t ht => by rw [hf2 14 (by decide)]; exact hb1 t ht)
      · refine k_aln hK (q := 36)  dX5_lay_35 rfl (z := 10) rfl (k_gR hK (q := 39) (r := 1) dX5_lay_36 rfl rf_X5_24 rfl rfl (k_iln hK (q := 40)  dX5_lay_39 rfl (z := pl) rfl ?_))
        refine k_iv1I hK (q := 43) dX5_lay_40 rfl rm_X5_37 rfl rfl (Nat.le_of_ble_eq_true rfl) (t_isThereC _ (up M 14 (pl + 1) (M 10 5)) pl (by simp [up]; omega)) ?_
        refine k_ifeq hK (q := 46) (t := 51) dX5_lay_43 rfl rfl (fun h43 => ?_) (fun h43 => ?_)
        · have h43 := bi_0.mp h43
          have h43 : ¬ thr S pl := fun q => h43 ((thr_C hs1 hS _).mpr q)
          have hEu : Eu S (i + 1) = Eu S i := by
            simp only [Eu]
            rw [← hpl, if_neg (by intro q; rcases q with q | q; omega; exact h43 q), List.append_nil]
          refine k_inc hK (q := 54)  dX5_lay_51 rfl (y := pl + 1) (L2 := [some (vR 10), some (vI (pl + 1))]) rfl rfl (by omega) rfl (k_goto hK (t := 7) dX5_lay_54 rfl ?_)
          exact ih (i + 1) _ (pl + 1) (by omega) (by omega) hs1 hf1 (by rw [hEu]; exact hn1) hb1
        · have h43 := bi_1.mp h43
          have hp0 : pl = -1 ∨ thr S pl := Or.inr ((thr_C hs1 hS _).mp h43)
          have hp : pl = -1 ∨ thr S pl := by assumption
          have hEu : Eu S (i + 1) = Eu S i ++ (nx S pl).map (fun q => (pl, q.1, q.2)) := by
            simp only [Eu]
            rw [← hpl]
            rw [if_pos (by rcases hp with h | h; left; omega; right; exact h)]
          have hl1 : (Eu S i).length + (nx S pl).length ≤ 74 := by
            have h1 := Eu_mono S (i + 1) ((S 0 0).toNat + 1) (by omega)
            have h2 := El_len hS
            unfold El at h2
            rw [hEu, List.length_append, List.length_map] at h1
            omega
          refine k_aln hK (q := 47)  dX5_lay_46 rfl (z := 10) rfl (k_iln hK (q := 48)  dX5_lay_47 rfl (z := pl) rfl ?_)
          refine k_iv1 hK (q := 51) dX5_lay_48 rfl rm_X5_41 rfl rfl (Nat.le_of_ble_eq_true rfl) (t_layFrom _ (up M 14 (pl + 1) (M 10 5)) pl S _ hs1 hS hp hn1 (by omega)) (fun r9 M5 h9 => ?_)
          obtain ⟨rfl, hn2, hf2⟩ := h9
          show K 51 [some (vR 10), some (vI pl)] [] M5
          refine k_inc hK (q := 54)  dX5_lay_51 rfl (y := pl + 1) (L2 := [some (vR 10), some (vI (pl + 1))]) rfl rfl (by omega) rfl (k_goto hK (t := 7) dX5_lay_54 rfl ?_)
          refine ih (i + 1) M5 (pl + 1) (by omega) (by omega) (by rw [scC_fr (frX_S hf2 (by decide))]; exact hs1) (frX_trans hf1 (frX_sub hf2 (by decide))) (by rw [hEu]; exact hn2) (fun t ht => by rw [hf2 14 (by decide)]; exact hb1 t ht)

set_option maxRecDepth 20000 in
set_option maxHeartbeats 2000000 in
theorem xc_lay (d : Nat) (M : ra_M) (S : Sc) (hs : scC M = S) (hS : okSc S) : Ex (d + 4) m_X5_lay [vR 10] M (fun r M2 => r = none ∧ NxA M2 S ∧ frX [10, 11, 12, 13, 14] M M2) := by
  refine Ex_call (Nat.le_of_ble_eq_true rfl) (fun K hK => ?_)
  show K 0 [some (vR 10), none] [] M
  have hK : ra_Clo _ m_X5_lay cX5_lay _ K := hK
  refine k_aln hK (q := 1)  dX5_lay_0 rfl (z := 10) rfl (k_ic hK (q := 2)  dX5_lay_1 rfl (by decide) (k_pI hK (q := 5) (M2 := up M 10 5 0) dX5_lay_2 rfl rp_X5_28 rfl rfl rfl (k_ic hK (q := 6)  dX5_lay_5 rfl (by decide) (k_isn hK (q := 7)  dX5_lay_6 rfl (L2 := [some (vR 10), some (vI (-1))]) (Nat.le_of_ble_eq_true rfl) rfl ?_))))
  exact lay_loop hK hS (M0 := M) (fun M2 h1 h2 => ⟨rfl, h1, h2⟩) ((S 0 0).toNat + 1) 0 _ (-1) (by omega) (by omega) (by rw [scC_fr (M := M) (frX_S (l := [10]) (frX_up (frX_refl _ _) _ _ (by decide)) (by decide))]; exact hs) (frX_up (frX_refl _ _) _ _ (by decide)) ⟨by simp [up, Eu], fun i e h => by simp [Eu] at h⟩ (fun t ht => by omega)

set_option maxRecDepth 20000 in
set_option maxHeartbeats 2000000 in
theorem t_beginOf (d : Nat) (M : ra_M) (p : Int) (h : -1 ≤ p ∧ p < 60) : Ex d m_X5_beginOf [vR 10, vI p] M (fun r M2 => r = some (vI (M 14 (p + 1))) ∧ M2 = M) := by
  refine Ex_leaf (Nat.le_of_ble_eq_true rfl) (fun C K hK => ?_)
  show K 0 [some (vR 10), some (vI p)] [] M
  have hK : ra_Clo _ m_X5_beginOf cX5_beginOf _ K := hK
  refine k_aln hK (q := 1)  dX5_beginOf_0 rfl (z := 10) rfl (k_gR hK (q := 4) (r := 14) dX5_beginOf_1 rfl rf_X5_21 rfl rfl (k_iln hK (q := 5)  dX5_beginOf_4 rfl (z := p) rfl (k_ic hK (q := 6)  dX5_beginOf_5 rfl (by decide) (k_add hK (q := 7)  dX5_beginOf_6 rfl (z := p + 1) rfl (by omega) (k_ald hK (q := 8)  dX5_beginOf_7 rfl (y := M 14 (p + 1)) rfl (by omega) rfl ?_)))))
  refine k_ir hK dX5_beginOf_8 rfl ?_
  exact ⟨rfl, rfl⟩

set_option maxRecDepth 20000 in
set_option maxHeartbeats 2000000 in
theorem t_endOf (d : Nat) (M : ra_M) (p : Int) (h : -1 ≤ p ∧ p < 60) : Ex d m_X5_endOf [vR 10, vI p] M (fun r M2 => r = some (vI (M 14 (p + 2))) ∧ M2 = M) := by
  refine Ex_leaf (Nat.le_of_ble_eq_true rfl) (fun C K hK => ?_)
  show K 0 [some (vR 10), some (vI p)] [] M
  have hK : ra_Clo _ m_X5_endOf cX5_endOf _ K := hK
  refine k_aln hK (q := 1)  dX5_endOf_0 rfl (z := 10) rfl (k_gR hK (q := 4) (r := 14) dX5_endOf_1 rfl rf_X5_21 rfl rfl (k_iln hK (q := 5)  dX5_endOf_4 rfl (z := p) rfl (k_ic hK (q := 6)  dX5_endOf_5 rfl (by decide) (k_add hK (q := 7)  dX5_endOf_6 rfl (z := p + 2) rfl (by omega) (k_ald hK (q := 8)  dX5_endOf_7 rfl (y := M 14 (p + 2)) rfl (by omega) rfl ?_)))))
  refine k_ir hK dX5_endOf_8 rfl ?_
  exact ⟨rfl, rfl⟩
