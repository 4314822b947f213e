set_option maxRecDepth 20000 in
set_option maxHeartbeats 2000000 in
theorem xc_follow (d : Nat) (M : ra_M) (ev : Int) (S : Sc) (v : Int → Int) (B P : Int) (hs : scC M = S) (hS : okSc S) (hn : NxL M (El S)) (hnn : 0 < S 0 0) (hev : 0 ≤ ev ∧ ev < 120) (hv : ∀ j, pn S j → M 16 (ev * 61 + j) = v j) (hdd : dd S B v) (hB : 0 ≤ B ∧ B ≤ 900000000) (hP : M 17 ev = P) (hPt : P = -1 ∨ thr S P) (hfin : v (P + 1) < NV) : Ex (d + 3) m_X3_follow [vR 15, vI ev] M (fun r M2 => r = none ∧ (∀ j, pn S j → M2 16 ((ev + 1) * 61 + j) = fgt S (fwdT S (fwdC S v) (M 8 ev)) (fwdP S (fwdT S (fwdC S v) (M 8 ev)) P) j) ∧ M2 17 (ev + 1) = fwdP S (fwdT S (fwdC S v) (M 8 ev)) P ∧ offR ((ev + 1) * 61) M M2 ∧ (∀ z, z ≠ ev + 1 → M2 17 z = M 17 z) ∧ frX [16, 17, 18] M M2) := by
  refine Ex_call (Nat.le_of_ble_eq_true rfl) (fun K hK => ?_)
  show K 0 [some (vR 15), some (vI ev), none] [] M
  have hK : ra_Clo _ m_X3_follow cX3_follow _ K := hK
  have hs0 := hS.1
  have hPb : -1 ≤ P ∧ P < 60 := by rcases hPt with h | h <;> omega
  obtain ⟨t1, t2, t3, t4, t5⟩ := fwd_ok hS hnn (pit := M 8 ev) hB hdd hPt hfin
  have hcd := dd_fwdC hS hdd
  generalize hT : fwdT S (fwdC S v) (M 8 ev) = T at t1 t2 t3 t4 t5 ⊢
  refine k_iln hK (q := 1)  dX3_follow_0 rfl (z := ev) rfl (k_ic hK (q := 2)  dX3_follow_1 rfl (by decide) (k_add hK (q := 3)  dX3_follow_2 rfl (z := ev + 1) rfl (by omega) (k_bp hK (q := 5)  dX3_follow_3 rfl (by decide) (k_mul hK (q := 6)  dX3_follow_5 rfl (z := (ev + 1) * 61) rfl (by omega) (k_isn hK (q := 7)  dX3_follow_6 rfl (L2 := [some (vR 15), some (vI ev), some (vI ((ev + 1) * 61))]) (Nat.le_of_ble_eq_true rfl) rfl ?_)))))
  refine k_aln hK (q := 8)  dX3_follow_7 rfl (z := 15) rfl (k_iln hK (q := 9)  dX3_follow_8 rfl (z := ev) rfl (k_bp hK (q := 11)  dX3_follow_9 rfl (by decide) (k_mul hK (q := 12)  dX3_follow_11 rfl (z := ev * 61) rfl (by omega) ?_)))
  refine k_iv1 hK (q := 15) dX3_follow_12 rfl rm_X3_40 rfl rfl (Nat.le_of_ble_eq_true rfl) (xc_passOn _ M (ev * 61) S hs hS hn (by omega) (fun j a b => by rw [hv j ⟨a, b⟩]; exact hdd.1 j)) (fun r9 M5 h9 => ?_)
  obtain ⟨rfl, c0, hc0, hc5, hf5⟩ := h9
  have hs5 : scC M5 = S := by rw [scC_fr (frX_S hf5 (by decide))]; exact hs
  have hn5 : NxL M5 (El S) := NxL_fr hn (hf5 10 (by decide)) (hf5 11 (by decide)) (hf5 12 (by decide)) (hf5 13 (by decide))
  have hcc : ∀ j, pn S j → M5 18 j = fwdC S v j := by
    intro j hj
    rw [hc5]
    exact rep_congP (P := pn S) (sk_pn hS) 61 c0 v (fun i hi => by rw [hc0 i hi.1 hi.2, hv i hi]) j hj
  have hp8 : M5 8 ev = M 8 ev := by rw [hf5 8 (by decide)]
  show K 15 [some (vR 15), some (vI ev), some (vI ((ev + 1) * 61))] [] M5
  refine k_aln hK (q := 16)  dX3_follow_15 rfl (z := 15) rfl (k_iln hK (q := 17)  dX3_follow_16 rfl (z := ((ev + 1) * 61)) rfl (k_aln hK (q := 18)  dX3_follow_17 rfl (z := 15) rfl (k_gR hK (q := 21) (r := 7) dX3_follow_18 rfl rf_X3_29 rfl rfl (k_gR hK (q := 24) (r := 8) dX3_follow_21 rfl rf_X3_44 rfl rfl (k_iln hK (q := 25)  dX3_follow_24 rfl (z := ev) rfl ?_)))))
  refine k_ald hK (q := 26)  dX3_follow_25 rfl (y := M5 8 ev) rfl (by omega) rfl ?_
  rw [hp8]
  refine k_iv2 hK (q := 29) dX3_follow_26 rfl rm_X3_47 rfl rfl (Nat.le_of_ble_eq_true rfl) (xc_take _ M5 ((ev + 1) * 61) (M 8 ev) S hs5 hS hn5 (by omega) (fun j hj => by rw [hcc j hj]; exact hcd.1 j)) (fun r9 M6 h9 => ?_)
  obtain ⟨rfl, ht6, ho6, hf6⟩ := h9
  have hs6 : scC M6 = S := by rw [scC_fr (frX_S hf6 (by decide))]; exact hs5
  have hrow : ∀ j, pn S j → M6 16 ((ev + 1) * 61 + j) = T j := by
    intro j hj
    rw [ht6 j hj, ← hT]
    exact fwdT_congP hS _ hcc j hj
  have h17 : M6 17 ev = P := by rw [hf6 17 (by decide), hf5 17 (by decide)]; exact hP
  show K 29 [some (vR 15), some (vI ev), some (vI ((ev + 1) * 61))] [] M6
  refine k_aln hK (q := 30)  dX3_follow_29 rfl (z := 15) rfl (k_gR hK (q := 33) (r := 17) dX3_follow_30 rfl rf_X3_15 rfl rfl (k_iln hK (q := 34)  dX3_follow_33 rfl (z := ev) rfl (k_ic hK (q := 35)  dX3_follow_34 rfl (by decide) (k_add hK (q := 36)  dX3_follow_35 rfl (z := ev + 1) rfl (by omega) (k_aln hK (q := 37)  dX3_follow_36 rfl (z := 15) rfl ?_)))))
  refine k_iln hK (q := 38)  dX3_follow_37 rfl (z := ((ev + 1) * 61)) rfl (k_aln hK (q := 39)  dX3_follow_38 rfl (z := 15) rfl (k_gR hK (q := 42) (r := 17) dX3_follow_39 rfl rf_X3_15 rfl rfl (k_iln hK (q := 43)  dX3_follow_42 rfl (z := ev) rfl (k_ald hK (q := 44)  dX3_follow_43 rfl (y := M6 17 ev) rfl (by omega) rfl ?_))))
  rw [h17]
  refine k_ic hK (q := 45)  dX3_follow_44 rfl (by decide) (k_add hK (q := 46)  dX3_follow_45 rfl (z := P + 1) rfl (by omega) ?_)
  refine k_iv2I hK (q := 49) dX3_follow_46 rfl rm_X3_51 rfl rfl (Nat.le_of_ble_eq_true rfl) (xc_nearest _ M6 ((ev + 1) * 61) (P + 1) S hs6 hS (by omega) (by omega) (fun j hj => by rw [hrow j hj]; exact t1.1 j)) ?_
  have hch : chF (rv M6 ((ev + 1) * 61)) (P + 1) (S 0 0).toNat = fwdP S T P := by
    unfold fwdP
    exact chF_congP _ (fun j a b => hrow j ⟨a, by omega⟩)
  rw [hch]
  refine k_ast hK (q := 50)  dX3_follow_49 rfl rfl (by omega) ?_
  have hs7 : scC (up M6 17 (ev + 1) (fwdP S T P)) = S := by rw [scC_fr (M := M6) (frX_S (l := [17]) (frX_up (frX_refl _ _) _ _ (by decide)) (by decide))]; exact hs6
  refine k_aln hK (q := 51)  dX3_follow_50 rfl (z := 15) rfl (k_iln hK (q := 52)  dX3_follow_51 rfl (z := ((ev + 1) * 61)) rfl (k_aln hK (q := 53)  dX3_follow_52 rfl (z := 15) rfl (k_gR hK (q := 56) (r := 17) dX3_follow_53 rfl rf_X3_15 rfl rfl (k_iln hK (q := 57)  dX3_follow_56 rfl (z := ev) rfl (k_ic hK (q := 58)  dX3_follow_57 rfl (by decide) ?_)))))
  refine k_add hK (q := 59)  dX3_follow_58 rfl (z := ev + 1) rfl (by omega) (k_ald hK (q := 60)  dX3_follow_59 rfl (y := fwdP S T P) rfl (by omega) (by simp [up]) ?_)
  refine k_iv2 hK (q := 63) dX3_follow_60 rfl rm_X3_55 rfl rfl (Nat.le_of_ble_eq_true rfl) (xc_forget _ (up M6 17 (ev + 1) (fwdP S T P)) ((ev + 1) * 61) (fwdP S T P) S hs7 hS (by omega) (by rcases t2 with h | h <;> omega)) (fun r9 M8 h9 => ?_)
  obtain ⟨rfl, hr8, ho8, hf8⟩ := h9
  show K 63 [some (vR 15), some (vI ev), some (vI ((ev + 1) * 61))] [] M8
  refine k_vr hK dX3_follow_63 rfl ?_
  rw [hT]
  refine ⟨rfl, fun j hj => ?_, ?_, fun z hz => ?_, fun z hz => ?_, ?_⟩
  · rw [hr8 j hj]
    unfold fgt
    split
    · rfl
    · exact hrow j hj
  · rw [hf8 17 (by decide), up_same]
  · rw [ho8 z hz, up_k _ _ _ (by decide), ho6 z hz, hf5 16 (by decide)]
  · rw [hf8 17 (by decide), up_j _ _ hz, hf6 17 (by decide), hf5 17 (by decide)]
  · refine frX_trans (frX_trans (frX_sub hf5 (by decide)) (frX_sub hf6 (by decide))) (frX_trans (frX_up (frX_refl _ M6) (ev + 1) (fwdP S T P) (by decide)) (frX_sub hf8 (by decide)))
