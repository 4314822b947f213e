set_option maxRecDepth 20000 in
set_option maxHeartbeats 2000000 in
theorem xc_follow (d : Nat) (M : ra_M) (ev : Int) (S : Sc) (v : Int → Int) (B P : Int) (hs : scC M = S) (hS : okSc S) (hn : NxL M (El S)) (hnn : 0 < S 0 0) (hev : 0 ≤ ev ∧ ev < 120) (hv : ∀ j, pn S j → M 16 j = v j) (hdd : dd S B v) (hB : 0 ≤ B ∧ B ≤ 900000000) (hP : M 15 5 = P) (hPt : P = -1 ∨ thr S P) (hfin : v (P + 1) < NV) : Ex (d + 3) m_X3_follow [vR 15, vI ev] M (fun r M2 => r = none ∧ (∀ j, pn S j → M2 16 j = fgt S (fwdT S (fwdC S v) (M 8 ev)) (fwdP S (fwdT S (fwdC S v) (M 8 ev)) P) j) ∧ M2 15 5 = fwdP S (fwdT S (fwdC S v) (M 8 ev)) P ∧ frX [15, 16, 17] M M2) := by
  refine Ex_call (Nat.le_of_ble_eq_true rfl) (fun K hK => ?_)
  show K 0 [some (vR 15), some (vI ev)] [] M
  have hK : ra_Clo _ m_X3_follow cX3_follow _ K := hK
  have hs0 := hS.1
  have hPb : -1 ≤ P ∧ P < 60 := by rcases hPt with h | h <;> omega
  obtain ⟨t1, t2, t3, t4, t5⟩ := fwd_ok hS hnn (pit := M 8 ev) hB hdd hPt hfin
  have hcd := dd_fwdC hS hdd
  generalize hT : fwdT S (fwdC S v) (M 8 ev) = T at t1 t2 t3 t4 t5 ⊢
  refine k_aln hK (q := 1)  dX3_follow_0 rfl (z := 15) rfl ?_
  refine k_iv0 hK (q := 4) dX3_follow_1 rfl rm_X3_38 rfl rfl (Nat.le_of_ble_eq_true rfl) (xc_passOn _ M S hs hS hn (fun j a b => by rw [hv j ⟨a, b⟩]; exact hdd.1 j)) (fun r9 M5 h9 => ?_)
  obtain ⟨rfl, c0, hc0, hc5, hf5⟩ := h9
  have hs5 : scC M5 = S := by rw [scC_fr (frX_S hf5 (by decide))]; exact hs
  have hn5 : NxL M5 (El S) := NxL_fr hn (hf5 10 (by decide)) (hf5 11 (by decide)) (hf5 12 (by decide)) (hf5 13 (by decide))
  have hcc : ∀ j, pn S j → M5 17 j = fwdC S v j := by
    intro j hj
    rw [hc5]
    exact rep_congP (P := pn S) (sk_pn hS) 61 c0 v (fun i hi => by rw [hc0 i hi.1 hi.2, hv i hi]) j hj
  have hp8 : M5 8 ev = M 8 ev := by rw [hf5 8 (by decide)]
  show K 4 [some (vR 15), some (vI ev)] [] M5
  refine k_aln hK (q := 5)  dX3_follow_4 rfl (z := 15) rfl (k_aln hK (q := 6)  dX3_follow_5 rfl (z := 15) rfl (k_gR hK (q := 9) (r := 7) dX3_follow_6 rfl rf_X3_26 rfl rfl (k_gR hK (q := 12) (r := 8) dX3_follow_9 rfl rf_X3_41 rfl rfl (k_iln hK (q := 13)  dX3_follow_12 rfl (z := ev) rfl (k_ald hK (q := 14)  dX3_follow_13 rfl (y := M5 8 ev) rfl (by omega) rfl ?_)))))
  rw [hp8]
  refine k_iv1 hK (q := 17) dX3_follow_14 rfl rm_X3_46 rfl rfl (Nat.le_of_ble_eq_true rfl) (xc_take _ M5 (M 8 ev) S hs5 hS hn5 (fun j hj => by rw [hcc j hj]; exact hcd.1 j)) (fun r9 M6 h9 => ?_)
  obtain ⟨rfl, ht6, hf6⟩ := h9
  have hs6 : scC M6 = S := by rw [scC_fr (frX_S hf6 (by decide))]; exact hs5
  have hrow : ∀ j, pn S j → M6 16 j = T j := by
    intro j hj
    rw [ht6 j hj, ← hT]
    exact fwdT_congP hS _ hcc j hj
  have h17 : M6 15 5 = P := by rw [hf6 15 (by decide), hf5 15 (by decide)]; exact hP
  show K 17 [some (vR 15), some (vI ev)] [] M6
  refine k_aln hK (q := 18)  dX3_follow_17 rfl (z := 15) rfl (k_aln hK (q := 19)  dX3_follow_18 rfl (z := 15) rfl (k_aln hK (q := 20)  dX3_follow_19 rfl (z := 15) rfl (k_gI hK (q := 23) (z := M6 15 5) 0 dX3_follow_20 rfl rf_X3_34 rfl rfl rfl rfl ?_)))
  rw [h17]
  refine k_ic hK (q := 24)  dX3_follow_23 rfl (by decide) (k_add hK (q := 25)  dX3_follow_24 rfl (z := P + 1) rfl (by omega) ?_)
  refine k_iv1I hK (q := 28) dX3_follow_25 rfl rm_X3_50 rfl rfl (Nat.le_of_ble_eq_true rfl) (xc_nearest _ M6 (P + 1) S hs6 hS (by omega) (fun j hj => by rw [hrow j hj]; exact t1.1 j)) ?_
  have hch : chF (M6 16) (P + 1) (S 0 0).toNat = fwdP S T P := by
    unfold fwdP
    exact chF_congP _ (fun j a b => hrow j ⟨a, by omega⟩)
  rw [hch]
  refine k_pI hK (q := 31) (M2 := up M6 15 5 (fwdP S T P)) dX3_follow_28 rfl rp_X3_34 rfl rfl rfl ?_
  have hs7 : scC (up M6 15 5 (fwdP S T P)) = S := by rw [scC_fr (M := M6) (frX_S (l := [15]) (frX_up (frX_refl _ _) _ _ (by decide)) (by decide))]; exact hs6
  refine k_aln hK (q := 32)  dX3_follow_31 rfl (z := 15) rfl ?_
  refine k_iv0 hK (q := 35) dX3_follow_32 rfl rm_X3_54 rfl rfl (Nat.le_of_ble_eq_true rfl) (xc_forget _ (up M6 15 5 (fwdP S T P)) (fwdP S T P) S hs7 hS (by rcases t2 with h | h <;> omega) (by rw [up_same])) (fun r9 M8 h9 => ?_)
  obtain ⟨rfl, hr8, hf8⟩ := h9
  show K 35 [some (vR 15), some (vI ev)] [] M8
  refine k_vr hK dX3_follow_35 rfl ?_
  rw [hT]
  refine ⟨rfl, fun j hj => ?_, ?_, ?_⟩
  · rw [hr8 j hj, up_k _ _ _ (by decide)]
    unfold fgt
    split
    · rfl
    · exact hrow j hj
  · rw [hf8 15 (by decide), up_same]
  · refine frX_trans (frX_trans (frX_sub hf5 (by decide)) (frX_sub hf6 (by decide))) (frX_trans (frX_up (frX_refl _ M6) 5 (fwdP S T P) (by decide)) (frX_sub hf8 (by decide)))
