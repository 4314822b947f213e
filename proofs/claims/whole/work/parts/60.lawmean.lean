/-! THE LAW: mean, the loop -/
theorem lw_goodM : GoodIn lwg (va_wsS RL 86 yL_mean mlW) := by
  have key : ∀ w ∈ lwg, w ∈ lwg ∧ ((w.onTables && w.keeps) = true ∨ ∃ ty, w = .arrayClass ty) := fun w hw => ⟨hw, good_of_word (List.mem_filter.mp hw).2⟩
  intro w hw
  unfold va_wsS mlW at hw
  rcases List.mem_append.mp hw with h | h
  · simp only [List.mem_cons, List.not_mem_nil, or_false] at h
    rcases h with rfl | rfl | rfl
    · exact key _ (lwg_of 666 (by decide +kernel) rfl)
    · exact key _ (lwg_of 667 (by decide +kernel) rfl)
    · exact key _ (lwg_of 0 (by decide +kernel) rfl)
  · rcases List.mem_cons.mp h with rfl | h
    · exact key _ (lwg_of 668 (by decide +kernel) rfl)
    · exact key w h
section LAW
variable {p : Program} {l : Launch} {e : Env} {s : State} {m : MethodId} {below : List Frame} {meth : Method} {c : Code} {b L : Nat} {xs : Nat → Int32} {D : va_G} {cA cL : ClassId} {ad : Nat → Nat} {A : Nat → Prop} {qo : Nat} {f : Nat → Int64} {QF : State → Prop} {H : Heap} {locs : List Loc} {cells slots t : Nat} {ls : Array Slot} {M : ra_M}
set_option maxRecDepth 20000 in
set_option maxHeartbeats 2000000 in
theorem lw_mean (hst : l.stackTraces = false) (F : lwF p s m c b L xs D cA cL ad A) (I : lwI s D cA cL ad A qo f M H locs) (hl : lv_has ls 7 (lwV b ad qo t)) (ht : 3 * t + 2 < L) (hcs : cells + 1 ≤ 601024 ∧ slots + 6 ≤ 7293034) (hv : Iv t M)
    (kk : ∀ (f : Nat → Int64) (M : ra_M) (H : Heap) (locs : List Loc) (ls : Array Slot), Iv (t + 1) M → lwI s D cA cL ad A qo f M H locs → lv_has ls 7 (lwV b ad qo t) → W p l e room_1 s m #[Value.ref b] below meth c H locs (cells + 1) (slots + 6) QF (F0 m 739 ls [])) : W p l e room_1 s m #[Value.ref b] below meth c H locs cells slots QF (F0 m 583 ls []) := by
  obtain ⟨hcf, -, -, -, -, hK, hsta, hth, hA⟩ := id F
  obtain ⟨hx, hb, -, -, -⟩ := id hcf
  obtain ⟨oM, hP, hD, hS⟩ := I
  have has : ∀ v ∈ [vI (xs (3 * t + 1)).toInt], ra_okV v := fun v hv => by
    cases hv with
    | head => exact lw_in32 _
    | tail _ h => cases h
  have hsub : ∀ q, va_A (w2 cA ad M qo cL f) H.size q → A q := by
    intro q h
    rcases h with ⟨k, e9, h⟩ | h
    · exact hD.2 k (q, e9) h
    · exact hA q (Nat.le_trans hS.1 h)
  refine lv_aload_n hx hb dL_law_583 rfl (lv_at hl 1 rfl) ?_
  refine lw_arg F hS hl ht (j := 1) (by omega) rfl ⟨dL_law_584, dL_law_585, dL_law_587, dL_law_588, dL_law_589⟩ ?_
  refine lv_aload_n hx hb dL_law_590 rfl (lv_at hl 3 rfl) ?_
  rcases pr_mean t M hv (xs (3 * t + 1)).toInt with ⟨z, hex, hm⟩ | ⟨hs, hk, hn, hb26, h0, hm⟩
  · refine va_calli (vx_runSW (As := [.ref (ad 0), .int (Int32.ofInt (xs (3 * t + 1)).toInt), .ref qo]) (rest := []) hcf (ml_ret (l := l) D cA cL ad M oM _ (lw_in32 _) qo f z hex H.size) (vx_cwSW (R := room_1) 3 hcf.2.2.2.2 lw_goodM rfl rfl rfl ⟨by decide, by decide, by decide +kernel⟩ ⟨Nat.le_of_ble_eq_true rfl, Nat.le_of_ble_eq_true rfl⟩) ⟨ml_blind, fun U hU hW => ⟨rfl, by rw [hU], by rw [hU]; exact hP, va_K.moved hW.alike hK, hD.weaken (fun _ _ _ _ => trivial), ki_sta hsta hS hsub U hU hW, thS_move hth hS hsub hU hW⟩⟩ rfl rfl hl.1 rfl (lv_room (Nat.zero_le _)) dL_law_591 hcs) hS (fun q _ h => hsub q h) hsub (fun r g t9 H1 locs1 ht9 hal hpost hB hz hk1 hS1 => ?_)
    obtain ⟨hr9, hg0⟩ := hpost
    subst hr9
    have hB : va_P D vwCl (w2 cA ad M qo cL g) t9.heap := hB
    rw [ht9] at hB
    have hD1 : va_D A (w2 cA ad M qo cL g) := w2_Dany hD
    refine lv_istore hx hb dL_law_594 hl (Nat.le_of_ble_eq_true rfl) (lv' := (5, .int (Int32.ofInt 0)) :: lwV b ad qo t) rfl (fun ls2 hl2 => ?_)
    have hl2w : lv_has ls2 7 (lwV b ad qo t) := lv_mem hl2 (fun q hq => List.mem_cons_of_mem _ hq)
    refine lv_aload_n hx hb dL_law_596 rfl (lv_at hl2w 2 rfl) ?_
    refine lw_arg F hS1 hl2w ht (j := 1) (by omega) rfl ⟨dL_law_597, dL_law_598, dL_law_600, dL_law_601, dL_law_602⟩ ?_
    refine lw_cv (as := [vI (xs (3 * t + 1)).toInt]) (k0 := 32) (rest := []) hcf hK hsta hA hm rm_L_91 (ci := 8) rfl (T1 := TX8) (N1 := 35) rfl has oM hB hD1 hS1 ⟨Nat.le_of_ble_eq_true rfl, Nat.le_of_ble_eq_true rfl⟩ hcs (Nat.zero_le _) hl2.1 dL_law_603 (fun r2 M2 H2 locs2 hq2 oM2 or2 hP2 hD2 hS2 => ?_)
    obtain ⟨rfl, h34, hI2⟩ := hq2
    refine lv_istore hx hb dL_law_606 hl2 (Nat.le_of_ble_eq_true rfl) (lv' := (6, .int (Int32.ofInt z)) :: (5, .int (Int32.ofInt 0)) :: lwV b ad qo t) rfl (fun ls3 hl3 => ?_)
    have hl3w : lv_has ls3 7 (lwV b ad qo t) := lv_mem hl3 (fun q hq => List.mem_cons_of_mem _ (List.mem_cons_of_mem _ hq))
    refine lv_aload_n hx hb dL_law_608 rfl (lv_at hl3w 2 rfl) ?_
    refine lw_cv (as := []) (k0 := 32) (rest := []) hcf hK hsta hA (xm_thrown 8 M2) rm_L_92 (ci := 8) rfl (T1 := TX8) (N1 := 35) rfl (fun v hv => by cases hv) oM2 hP2 hD2 hS2 ⟨Nat.le_of_ble_eq_true rfl, Nat.le_of_ble_eq_true rfl⟩ hcs (Nat.zero_le _) hl3.1 dL_law_609 (fun r3 M3 H3 locs3 hq3 oM3 or3 hP3 hD3 hS3 => ?_)
    obtain ⟨rfl, rfl⟩ := hq3
    rw [h34]
    refine lv_iload hx hb dL_law_612 (lv_at hl3 1 rfl) ?_
    refine lv_icmp_eq hx hb dL_law_614 (tgt := 619) rfl (fun _ => ?_) (fun h => absurd rfl h)
    refine lv_iload hx hb dL_law_619 (lv_at hl3 1 rfl) ?_
    refine lv_if_ne hx hb dL_law_621 (tgt := 636) rfl (fun h => absurd rfl h) (fun _ => ?_)
    have oz : in32 z := or2 _ rfl
    have oj : in64 z := ⟨by have := oz.1; omega, by have := oz.2; omega⟩
    refine lv_aload_n hx hb dL_law_624 rfl (lv_at hl3w 3 rfl) ?_
    refine lv_iconst (v := Int32.ofInt 0) hx hb dL_law_625 rfl ?_
    refine va_lald hx hb hK hP3 SH.length 1 (w2_get _ _ _ _ _ _) rfl (ra_vin ⟨by decide, by decide⟩ (by decide) (by decide)) dL_law_626 ?_
    refine W.eq (g2 := F0 m 627 ls3 [.long (Int64.ofInt z)]) (by rw [← hg0]; rfl) ?_
    refine lv_iload hx hb dL_law_627 (lv_at hl3 0 rfl) ?_
    refine lv_i2l hx hb dL_law_629 (v := Int64.ofInt z) (Int64.toInt_inj.mp (by rw [Int32.toInt_toInt64, ra_ti oz, ra_tj oj])) ?_
    refine W.lcmp hx hb dL_law_630 ?_
    rw [ra_cmpJ oj oj]
    refine lv_if_eq hx hb dL_law_631 (tgt := 636) rfl (fun _ => lv_goto hx hb dL_law_636 (tgt := 739) rfl (kk g M3 H3 locs3 ls3 hI2 ⟨oM3, hP3, hD3, hS3⟩ hl3w)) (fun h => absurd ?_ h)
    rw [if_neg (Int.lt_irrefl z), if_pos rfl]
    rfl
  · refine va_calli (vx_runSW (As := [.ref (ad 0), .int (Int32.ofInt (xs (3 * t + 1)).toInt), .ref qo]) (rest := []) hcf (ml_thr (l := l) hst D cA cL ad M oM _ (lw_in32 _) qo f ⟨hs, hk, hn, hb26, h0⟩ H.size) (vx_cwSW (R := room_1) 3 hcf.2.2.2.2 lw_goodM rfl rfl rfl ⟨by decide, by decide, by decide +kernel⟩ ⟨Nat.le_of_ble_eq_true rfl, Nat.le_of_ble_eq_true rfl⟩) ⟨ml_blind, fun U hU hW => ⟨rfl, by rw [hU], by rw [hU]; exact hP, va_K.moved hW.alike hK, hD.weaken (fun _ _ _ _ => trivial), ki_sta hsta hS hsub U hU hW, thS_move hth hS hsub hU hW⟩⟩ rfl rfl hl.1 rfl (lv_room (Nat.zero_le _)) dL_law_591 hcs) hS (fun q _ h => hsub q h) hsub (fun r g t9 H1 locs1 ht9 hal hpost hB hz hk1 hS1 => ?_)
    have hr9 : r = Int32.ofInt 1 := hpost
    subst hr9
    have hB : va_P D vwCl (w2 cA ad M qo cL g) t9.heap := hB
    rw [ht9] at hB
    have hD1 : va_D A (w2 cA ad M qo cL g) := w2_Dany hD
    refine lv_istore hx hb dL_law_594 hl (Nat.le_of_ble_eq_true rfl) (lv' := (5, .int (Int32.ofInt 1)) :: lwV b ad qo t) rfl (fun ls2 hl2 => ?_)
    have hl2w : lv_has ls2 7 (lwV b ad qo t) := lv_mem hl2 (fun q hq => List.mem_cons_of_mem _ hq)
    refine lv_aload_n hx hb dL_law_596 rfl (lv_at hl2w 2 rfl) ?_
    refine lw_arg F hS1 hl2w ht (j := 1) (by omega) rfl ⟨dL_law_597, dL_law_598, dL_law_600, dL_law_601, dL_law_602⟩ ?_
    refine lw_cv (as := [vI (xs (3 * t + 1)).toInt]) (k0 := 32) (rest := []) hcf hK hsta hA hm rm_L_91 (ci := 8) rfl (T1 := TX8) (N1 := 35) rfl has oM hB hD1 hS1 ⟨Nat.le_of_ble_eq_true rfl, Nat.le_of_ble_eq_true rfl⟩ hcs (Nat.zero_le _) hl2.1 dL_law_603 (fun r2 M2 H2 locs2 hq2 oM2 or2 hP2 hD2 hS2 => ?_)
    obtain ⟨rfl, h34, hI2⟩ := hq2
    refine lv_istore hx hb dL_law_606 hl2 (Nat.le_of_ble_eq_true rfl) (lv' := (6, .int (Int32.ofInt 0)) :: (5, .int (Int32.ofInt 1)) :: lwV b ad qo t) rfl (fun ls3 hl3 => ?_)
    have hl3w : lv_has ls3 7 (lwV b ad qo t) := lv_mem hl3 (fun q hq => List.mem_cons_of_mem _ (List.mem_cons_of_mem _ hq))
    refine lv_aload_n hx hb dL_law_608 rfl (lv_at hl3w 2 rfl) ?_
    refine lw_cv (as := []) (k0 := 32) (rest := []) hcf hK hsta hA (xm_thrown 8 M2) rm_L_92 (ci := 8) rfl (T1 := TX8) (N1 := 35) rfl (fun v hv => by cases hv) oM2 hP2 hD2 hS2 ⟨Nat.le_of_ble_eq_true rfl, Nat.le_of_ble_eq_true rfl⟩ hcs (Nat.zero_le _) hl3.1 dL_law_609 (fun r3 M3 H3 locs3 hq3 oM3 or3 hP3 hD3 hS3 => ?_)
    obtain ⟨rfl, rfl⟩ := hq3
    rw [h34]
    refine lv_iload hx hb dL_law_612 (lv_at hl3 1 rfl) ?_
    refine lv_icmp_eq hx hb dL_law_614 (tgt := 619) rfl (fun _ => ?_) (fun h => absurd rfl h)
    refine lv_iload hx hb dL_law_619 (lv_at hl3 1 rfl) ?_
    exact lv_if_ne hx hb dL_law_621 (tgt := 636) rfl (fun _ => lv_goto hx hb dL_law_636 (tgt := 739) rfl (kk g M3 H3 locs3 ls3 hI2 ⟨oM3, hP3, hD3, hS3⟩ hl3w)) (fun h => absurd h (by decide))
end LAW
