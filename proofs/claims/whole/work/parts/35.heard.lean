/-! the class's own methods: what is heard, and what is told of it -/
def aHear (S : Sc) (cnt : Int) (hp ht : Int → Int) (ses : Int) (bx du : Int → Int) (al : Al8) (p t : Int) : Int × Stt := if ¬ ((0 ≤ p ∧ p ≤ 127) ∧ (0 ≤ t ∧ t ≤ 10000000) ∧ (if cnt = 0 then 0 else ht (cnt - 1)) ≤ t) then (-2, (S, cnt, hp, ht, ses, bx, du, al)) else if S 0 0 = 0 then (-3, (S, cnt, hp, ht, ses, bx, du, al)) else if 120 ≤ cnt then (-4, (S, cnt, hp, ht, ses, bx, du, al)) else ((FVP S (fU hp cnt p) (cnt.toNat + 1)).2, (S, cnt + 1, fU hp cnt p, fU ht cnt t, ses, bx, du, none))
def aCut (S : Sc) (cnt : Int) (hp ht : Int → Int) (ses : Int) (bx du : Int → Int) (al : Al8) (n : Int) : Int × Stt := if ¬ (0 ≤ n ∧ n ≤ cnt) then (-2, (S, cnt, hp, ht, ses, bx, du, al)) else ((FVP S hp n.toNat).2, (S, n, hp, ht, ses, bx, du, none))
def aVal (S : Sc) (cnt : Int) (hp : Int → Int) (p : Int) : Int := if ¬ (-1 ≤ p ∧ p < S 0 0) then -2 else if NV ≤ (FVP S hp cnt.toNat).1 (p + 1) then -1 else (FVP S hp cnt.toNat).1 (p + 1)
def aTem (S : Sc) (cnt : Int) (hp ht : Int → Int) (side : Int) : Int := if ¬ (0 ≤ side ∧ side ≤ 1) then -2 else low (tgF ht (AN S hp cnt.toNat)) (sgF S (AN S hp cnt.toNat)) side
def aAhd (S : Sc) (cnt : Int) (hp ht : Int → Int) (n : Int) : Int := if ¬ (0 ≤ n ∧ n < S 0 0) then -2 else if (AN S hp cnt.toNat).length = 0 then -3 else exF S ht (AN S hp cnt.toNat) n
def stS (s : St4) (w : Int) : Int := if w = 0 then s.1 else if w = 1 then s.2.1 else if w = 2 then s.2.2.1 else s.2.2.2
def aStp (al : Al8) (k w : Int) : Int := if ¬ ((0 ≤ w ∧ w ≤ 3) ∧ 0 ≤ k) then -2 else match al with
  | none => -3
  | some q => match q.2[k.toNat]? with
    | none => -2
    | some s => stS s w
def aSts (al : Al8) : Int := match al with
  | none => -3
  | some q => (q.2.length : Nat)
def aMat (cnt : Int) (al : Al8) (e : Int) : Int := if ¬ (0 ≤ e ∧ e < cnt) then -2 else match al with
  | none => -3
  | some q => mtF q.2 e
def aGra (S : Sc) (hp : Int → Int) (al : Al8) (n w : Int) : Int := if ¬ ((0 ≤ n ∧ n < S 0 0) ∧ (0 ≤ w ∧ w ≤ 2)) then -2 else match al with
  | none => -3
  | some q => if w = 0 then cPl n q.2 else if w = 1 then cRt S hp n q.2 else cPs n q.2
def aEnd (S : Sc) (cnt : Int) (hp ht : Int → Int) (ses : Int) (bx du : Int → Int) (al : Al8) : Int × Stt := match al with
  | none => (-3, (S, cnt, hp, ht, ses, bx, du, al))
  | some q => if cnt = 0 then (-3, (S, cnt, hp, ht, ses, bx, du, al)) else (cDue (ses + 1) (eBD S hp q.2 ses (bx, du) (S 0 0).toNat).2 (S 0 0).toNat, (S, 0, hp, ht, ses + 1, (eBD S hp q.2 ses (bx, du) (S 0 0).toNat).1, (eBD S hp q.2 ses (bx, du) (S 0 0).toNat).2, none))
def aDue (S : Sc) (ses : Int) (bx du : Int → Int) (k : Int) : Int := if k < 0 then -2 else dueF (S 0 0) ses bx du k
def aOf (S : Sc) (bx du : Int → Int) (n w : Int) : Int := if ¬ (0 ≤ n ∧ n < S 0 0) then -2 else if w = 0 then S 1 n else if w = 1 then S 2 n else if w = 2 then bx n else if w = 3 then du n else -2
def aTld (S : Sc) (cnt : Int) (hp : Int → Int) (ses w : Int) : Int := if w = 0 then S 0 0 else if w = 1 then S 0 1 else if w = 2 then cnt else if w = 3 then (FVP S hp cnt.toNat).2 else if w = 4 then ses else if w = 5 then ((AN S hp cnt.toNat).length : Nat) else if w = 6 then S 0 2 else if w = 7 then S 0 3 else if w = 8 then S 0 4 else -2
theorem known_cases {S : Sc} {cnt : Int} {hp ht : Int → Int} {ses : Int} {bx du : Int → Int} {al : Al8} {M : ra_M} (hL : AlC S hp cnt al M) : (M 21 10 = 0 ∧ al = none) ∨ (M 21 10 = 1 ∧ ∃ q, al = some q ∧ M 21 11 = q.1 ∧ WS S hp M q.2 cnt ∧ (0 < cnt → TL S hp cnt M q.2)) := by
  cases al with
  | none => exact Or.inl ⟨hL, rfl⟩
  | some q => exact Or.inr ⟨hL.1, q, rfl, hL.2.1, hL.2.2.1, hL.2.2.2⟩
theorem IC_frC {S : Sc} {cnt : Int} {hp ht : Int → Int} {ses : Int} {bx du : Int → Int} {al : Al8} {M M2 : ra_M} (hI : IC S cnt hp ht ses bx du al M) (hf : frC M M2) : IC S cnt hp ht ses bx du al M2 := by
  obtain ⟨h1, ⟨h2, h3, h4⟩, ⟨h5, h6, h7⟩, h8, h9, h10, h11⟩ := hI
  refine ⟨?_, ⟨?_, ?_, ?_⟩, ⟨?_, ?_, ?_⟩, NxA_f h8 (fun k a b => hf.1 k (by omega)), FlC_f h9 (hf.1 16 (by omega)) (by rw [hf.1 15 (by omega)]), AnC_f h10 (by rw [hf.1 18 (by omega)]) (hf.1 19 (by omega)) (hf.1 20 (by omega)), AlC_f h11 (fun k a b => hf.1 k (by omega)) hf.2⟩
  · rw [scC_fr (fun k a b => hf.1 k (by omega))]; exact h1
  · rw [hf.1 7 (by omega)]; exact h2
  · rw [hf.1 8 (by omega)]; exact h3
  · rw [hf.1 9 (by omega)]; exact h4
  · rw [hf.1 29 (by omega)]; exact h5
  · rw [hf.1 30 (by omega)]; exact h6
  · rw [hf.1 31 (by omega)]; exact h7
theorem hear_IC {S : Sc} {k : Nat} {hp ht : Int → Int} {ses : Int} {bx du : Int → Int} {al : Al8} {M M1 M2 M4 : ra_M} {p t : Int} (hI : IC S (k : Nat) hp ht ses bx du al M) (f1 : frX [10, 11, 12, 13, 14] M M1) (hN1 : NxA M1 S) (hM2 : M2 = up (up (up M1 8 (k : Nat) p) 9 (k : Nat) t) 7 2 ((k : Nat) + 1)) (hF4 : FA S (fU hp (k : Nat) p) (k + 1) M4) (hA4 : AnC M4 (AN S (fU hp (k : Nat) p) (k + 1))) (f4 : frX [15, 16, 17, 18, 19, 20] M2 M4) : IC S ((k : Nat) + 1) (fU hp (k : Nat) p) (fU ht (k : Nat) t) ses bx du none (up M4 21 10 0) := by
  obtain ⟨hs, ⟨g7, g8, g9⟩, ⟨g29, g30, g31⟩, hN, hF, hA, hL⟩ := hI
  have fr : ∀ x, x ∉ [7, 8, 9, 10, 11, 12, 13, 14, 15, 16, 17, 18, 19, 20, 21] → (up M4 21 10 0) x = M x := by
    intro x hx
    simp only [List.mem_cons, List.not_mem_nil, or_false, not_or] at hx
    rw [up_k _ _ _ (by omega), f4 x (by simp; omega), hM2, up_k _ _ _ (by omega), up_k _ _ _ (by omega), up_k _ _ _ (by omega), f1 x (by simp; omega)]
  have h6 : ((((k : Nat) : Int) + 1).toNat) = k + 1 := by omega
  refine ⟨?_, ⟨?_, ?_, ?_⟩, ⟨?_, ?_, ?_⟩, fun _ => NxA_fr hN1 (fun x a b => ?_), ⟨?_, fun q => by omega⟩, ?_, ?_⟩
  · rw [scC_fr (M := M) (fun x a b => fr x (by simp; omega))]; exact hs
  · rw [up_k _ _ _ (by omega), f4 7 (by decide), hM2, up_same]
  · rw [up_k _ _ _ (by omega), f4 8 (by decide), hM2, up_k _ _ _ (by omega), up_k _ _ _ (by omega), up_fU, f1 8 (by decide), g8]
  · rw [up_k _ _ _ (by omega), f4 9 (by decide), hM2, up_k _ _ _ (by omega), up_fU, up_k _ _ _ (by omega), f1 9 (by decide), g9]
  · rw [fr 29 (by decide)]; exact g29
  · rw [fr 30 (by decide)]; exact g30
  · rw [fr 31 (by decide)]; exact g31
  · rw [up_k _ _ _ (by omega), f4 x (by simp; omega), hM2, up_k _ _ _ (by omega), up_k _ _ _ (by omega), up_k _ _ _ (by omega)]
  · rw [h6]
    exact ⟨fun j hj => by rw [up_k _ _ _ (by omega)]; exact hF4.1 j hj, by rw [up_k _ _ _ (by omega)]; exact hF4.2⟩
  · rw [h6]
    exact AnC_f hA4 (by rw [up_k _ _ _ (by omega)]) (up_k _ _ _ (by omega)) (up_k _ _ _ (by omega))
  · show (_ : Int) = 0
    rw [up_same]

set_option maxRecDepth 20000 in
set_option maxHeartbeats 2000000 in
theorem xc_followOn (d : Nat) (M : ra_M) (S : Sc) (hs : scC M = S) (hS : okSc S) (hp : Int → Int) (k : Nat) (hk : k < 120) (hnn : 0 < S 0 0) (hN : NxL M (El S)) (h8 : M 8 = hp) (hF : FA S hp k M) (hA : AnC M (AN S hp k)) : Ex (d + 4) m_X7_followOn [vR 0, vI (k : Nat)] M (fun r M2 => r = none ∧ FA S hp (k + 1) M2 ∧ AnC M2 (AN S hp (k + 1)) ∧ frX [15, 16, 17, 18, 19, 20] M M2) := by
  refine Ex_call (Nat.le_of_ble_eq_true rfl) (fun K hK => ?_)
  show K 0 [some (vR 0), some (vI (k : Nat))] [] M
  have hK : ra_Clo _ m_X7_followOn cX7_followOn _ K := hK
  have hFV := FVP_ok hS hnn hp k (by omega)
  refine k_aln hK (q := 1)  dX7_followOn_0 rfl (z := 0) rfl (k_gR hK (q := 4) (r := 15) dX7_followOn_1 rfl rf_X7_37 rfl rfl (k_iln hK (q := 5)  dX7_followOn_4 rfl (z := (k : Nat)) rfl ?_))
  refine k_iv1 hK (q := 8) dX7_followOn_5 rfl rm_X7_238 rfl rfl (Nat.le_of_ble_eq_true rfl) (xc_follow _ M (k : Nat) S (FVP S hp k).1 (2000 * (k : Nat)) (FVP S hp k).2 hs hS hN hnn (by omega) hF.1 hFV.1 (by omega) hF.2 hFV.2.1 hFV.2.2) (fun r9 M3 h9 => ?_)
  obtain ⟨rfl, hv3, hp3, f3⟩ := h9
  rw [h8] at hv3 hp3
  have hF3 : FA S hp (k + 1) M3 := ⟨hv3, hp3⟩
  have hp3e : M3 15 5 = (FVP S hp (k + 1)).2 := hp3
  have hs3 : scC M3 = S := by rw [scC_fr (frX_S f3 (by decide))]; exact hs
  have hA3 : AnC M3 (AN S hp k) := AnC_f hA (by rw [f3 18 (by decide)]) (f3 19 (by decide)) (f3 20 (by decide))
  have b83 : M3 8 = hp := by rw [f3 8 (by decide)]; exact h8
  show K 8 [some (vR 0), some (vI (k : Nat))] [] M3
  refine k_aln hK (q := 9)  dX7_followOn_8 rfl (z := 0) rfl (k_gR hK (q := 12) (r := 18) dX7_followOn_9 rfl rf_X7_46 rfl rfl (k_iln hK (q := 13)  dX7_followOn_12 rfl (z := (k : Nat)) rfl (k_aln hK (q := 14)  dX7_followOn_13 rfl (z := 0) rfl (k_gR hK (q := 17) (r := 15) dX7_followOn_14 rfl rf_X7_37 rfl rfl (k_gI hK (q := 20) (z := M3 15 5) 0 dX7_followOn_17 rfl rf_X7_145 rfl rfl rfl rfl ?_)))))
  rw [hp3e]
  refine k_iv2 hK (q := 23) dX7_followOn_20 rfl rm_X7_241 rfl rfl (Nat.le_of_ble_eq_true rfl) (xc_look _ M3 (k : Nat) (FVP S hp (k + 1)).2 S hs3 hS (AN S hp k) hA3 (okAN S hp k) (by omega)) (fun r9 M4 h9 => ?_)
  obtain ⟨rfl, hA4, f4⟩ := h9
  rw [b83] at hA4
  show K 23 [some (vR 0), some (vI (k : Nat))] [] M4
  refine k_vr hK dX7_followOn_23 rfl ?_
  refine ⟨rfl, ⟨fun j hj => by rw [f4 16 (by decide)]; exact hF3.1 j hj, by rw [f4 15 (by decide)]; exact hF3.2⟩, hA4, frX_trans (frX_sub f3 (by decide)) (frX_sub f4 (by decide))⟩

set_option maxRecDepth 20000 in
set_option maxHeartbeats 2000000 in
theorem xc_hear (d t : Nat) (M : ra_M) (S : Sc) (k : Nat) (hp ht : Int → Int) (ses : Int) (bx du : Int → Int) (al : Al8) (hI : IC S (k : Nat) hp ht ses bx du al M) (hw : WF t S (k : Nat) hp ht ses bx al) (p t9 : Int) : Ex (d + 5) m_X7_hear [vR 0, vI p, vI t9] M (PC M (aHear S (k : Nat) hp ht ses bx du al p t9)) := by
  refine Ex_call (Nat.le_of_ble_eq_true rfl) (fun K hK => ?_)
  show K 0 [some (vR 0), some (vI p), some (vI t9)] [] M
  have hK : ra_Clo _ m_X7_hear cX7_hear _ K := hK
  have hI0 := hI
  obtain ⟨hs, ⟨g7, g8, g9⟩, ⟨g29, g30, g31⟩, hN, hF, hA, hL⟩ := hI
  obtain ⟨hS, hc, hnn, hh, hse, hbx, hal⟩ := hw
  obtain ⟨e5, e6, e7, e8, e9⟩ := scC_e hs
  obtain ⟨a2, a3, a4, a5, a6⟩ := scC_a hs
  have hs0 := hS.1
  have hs1 := hS.2.1
  have hs2 := hS.2.2.1
  have hlt : (if M 7 2 = 0 then 0 else M 9 (M 7 2 - 1)) = (if ((k : Nat) : Int) = 0 then 0 else ht (((k : Nat) : Int) - 1)) := by rw [g7, g9]
  have J82 : ∀ M1 : ra_M, scC M1 = S → NxA M1 S → frX [10, 11, 12, 13, 14] M M1 → ((0 ≤ p ∧ p ≤ 127) ∧ (0 ≤ t9 ∧ t9 ≤ 10000000) ∧ (if ((k : Nat) : Int) = 0 then 0 else ht (((k : Nat) : Int) - 1)) ≤ t9) → S 0 0 ≠ 0 → k < 120 → K 82 [some (vR 0), some (vI p), some (vI t9)] [] M1 := by
    intro M1 hs1 hN1 hf1 hg0 hn0 hk120
    have hg := fun q : ¬ _ => q hg0
    have hk1 : (((k : Nat) : Int).toNat) + 1 = k + 1 := by omega
    have q7 : M1 7 2 = (k : Nat) := by rw [hf1 7 (by decide)]; exact g7
    refine k_aln hK (q := 83)  dX7_hear_82 rfl (z := 0) rfl (k_aln hK (q := 84)  dX7_hear_83 rfl (z := 0) rfl (k_gR hK (q := 87) (r := 7) dX7_hear_84 rfl rf_X7_19 rfl rfl (k_iln hK (q := 88)  dX7_hear_87 rfl (z := p) rfl (k_iln hK (q := 89)  dX7_hear_88 rfl (z := t9) rfl ?_))))
    refine k_iv2 hK (q := 92) dX7_hear_89 rfl rm_X7_135 rfl rfl (Nat.le_of_ble_eq_true rfl) (t_hadd _ M1 p t9 (by omega)) (fun r9 M2 h9 => ?_)
    obtain ⟨rfl, hM2⟩ := h9
    rw [q7] at hM2 ⊢
    have f2 : frX [7, 8, 9] M1 M2 := by rw [hM2]; exact frX_up (frX_up (frX_up (frX_refl _ _) _ _ (by decide)) _ _ (by decide)) _ _ (by decide)
    have hs2 : scC M2 = S := by rw [scC_fr (frX_S f2 (by decide))]; exact hs1
    have b8 : M2 8 = fU hp (k : Nat) p := by rw [hM2, up_k _ _ _ (by omega), up_k _ _ _ (by omega), up_fU, hf1 8 (by decide), g8]
    have hk8 : FVP S (fU hp (k : Nat) p) k = FVP S hp k := FVP_hp k (fun x hx => fU_ne _ _ (by omega))
    have hAe : AN S (fU hp (k : Nat) p) k = AN S hp k := AN_hp k (fun x hx => fU_ne _ _ (by omega))
    have hF2 : FA S (fU hp (k : Nat) p) k M2 := by
      unfold FA
      rw [hk8, f2 16 (by decide), f2 15 (by decide), hf1 16 (by decide), hf1 15 (by decide)]
      exact hF.1
    have hA2 : AnC M2 (AN S (fU hp (k : Nat) p) k) := by
      rw [hAe]
      exact AnC_f hA (by rw [f2 18 (by decide), hf1 18 (by decide)]) (by rw [f2 19 (by decide), hf1 19 (by decide)]) (by rw [f2 20 (by decide), hf1 20 (by decide)])
    show K 92 [some (vR 0), some (vI p), some (vI t9)] [vI (k : Nat), vR 0] M2
    refine k_iv1 hK (q := 95) dX7_hear_92 rfl rm_X7_138 rfl rfl (Nat.le_of_ble_eq_true rfl) (xc_followOn _ M2 S hs2 hS (fU hp (k : Nat) p) k hk120 (by omega) (NxA_fr hN1 (fun x a b => f2 x (by simp; omega))).1 b8 hF2 hA2) (fun r9 M4 h9 => ?_)
    obtain ⟨rfl, hF4, hA4, f4⟩ := h9
    show K 95 [some (vR 0), some (vI p), some (vI t9)] [] M4
    refine k_aln hK (q := 96)  dX7_hear_95 rfl (z := 0) rfl (k_gR hK (q := 99) (r := 21) dX7_hear_96 rfl rf_X7_53 rfl rfl (k_ic hK (q := 100)  dX7_hear_99 rfl (by decide) (k_pZ hK (q := 103) (M2 := up M4 21 10 0) dX7_hear_100 rfl rp_X7_141 rfl rfl (by decide) rfl (k_aln hK (q := 104)  dX7_hear_103 rfl (z := 0) rfl (k_gR hK (q := 107) (r := 15) dX7_hear_104 rfl rf_X7_37 rfl rfl ?_)))))
    refine k_gI hK (q := 110) (z := M4 15 5) 0 dX7_hear_107 rfl rf_X7_145 rfl rfl rfl rfl ?_
    refine k_ir hK dX7_hear_110 rfl ?_
    unfold aHear
    rw [if_neg hg, if_neg (by omega), if_neg (by omega)]
    refine ⟨by rw [hF4.2, hk1], hear_IC hI0 hf1 hN1 hM2 hF4 hA4 f4, ?_⟩
    intro x hx
    rw [up_k _ _ _ (by omega), f4 x (by simp; omega), f2 x (by simp; omega), hf1 x (by simp; omega)]
  refine k_iln hK (q := 1)  dX7_hear_0 rfl (z := p) rfl (k_ic hK (q := 2)  dX7_hear_1 rfl (by decide) (k_bp hK (q := 4)  dX7_hear_2 rfl (by decide) ?_))
  refine k_st3I hK (q := 7) dX7_hear_4 rfl rm_X7_74 (Nat.le_of_ble_eq_true rfl) (t_isWithin _ M p 0 127) ?_
  refine k_ifeq hK (q := 10) (t := 20) dX7_hear_7 rfl rfl (fun h7 => ?_) (fun h7 => ?_)
  · have h7 := bi_0.mp h7
    refine k_bp hK (q := 22)  dX7_hear_20 rfl (by decide) ?_
    refine k_ir hK dX7_hear_22 rfl ?_
    refine PC_same (c := -2) ?_ hI0
    unfold aHear
    rw [if_pos (by intro q; have q3 := q.2.2; rw [← hlt] at q3; omega)]
  · have h7 := bi_1.mp h7
    refine k_iln hK (q := 11)  dX7_hear_10 rfl (z := t9) rfl (k_ic hK (q := 12)  dX7_hear_11 rfl (by decide) (k_ldc hK (q := 14)  dX7_hear_12 rfl rc_X7_128 ?_))
    refine k_st3I hK (q := 17) dX7_hear_14 rfl rm_X7_74 (Nat.le_of_ble_eq_true rfl) (t_isWithin _ M t9 0 10000000) ?_
    refine k_ifne hK (q := 20) (t := 23) dX7_hear_17 rfl rfl (fun h17 => ?_) (fun h17 => ?_)
    · have h17 := bi_1.mp h17
      refine k_iln hK (q := 24)  dX7_hear_23 rfl (z := t9) rfl (k_aln hK (q := 25)  dX7_hear_24 rfl (z := 0) rfl (k_gR hK (q := 28) (r := 7) dX7_hear_25 rfl rf_X7_19 rfl rfl ?_))
      refine k_iv0I hK (q := 31) dX7_hear_28 rfl rm_X7_129 rfl rfl (Nat.le_of_ble_eq_true rfl) (t_lastTime _ M (by omega)) ?_
      refine k_cge hK (q := 34) (t := 37) dX7_hear_31 rfl rfl (fun h31 => ?_) (fun h31 => ?_)
      · refine k_aln hK (q := 38)  dX7_hear_37 rfl (z := 0) rfl (k_gR hK (q := 41) (r := 1) dX7_hear_38 rfl rf_X7_12 rfl rfl (k_gI hK (q := 44) (z := M 1 5) 0 dX7_hear_41 rfl rf_X7_90 rfl rfl rfl rfl ?_))
        refine k_ifne hK (q := 47) (t := 50) dX7_hear_44 rfl rfl (fun h44 => ?_) (fun h44 => ?_)
        · refine k_aln hK (q := 51)  dX7_hear_50 rfl (z := 0) rfl (k_gR hK (q := 54) (r := 7) dX7_hear_51 rfl rf_X7_19 rfl rfl (k_gI hK (q := 57) (z := M 7 2) 0 dX7_hear_54 rfl rf_X7_83 rfl rfl rfl rfl (k_bp hK (q := 59)  dX7_hear_57 rfl (by decide) ?_)))
          refine k_clt hK (q := 62) (t := 65) dX7_hear_59 rfl rfl (fun h59 => ?_) (fun h59 => ?_)
          · refine k_aln hK (q := 66)  dX7_hear_65 rfl (z := 0) rfl (k_gR hK (q := 69) (r := 7) dX7_hear_66 rfl rf_X7_19 rfl rfl (k_gI hK (q := 72) (z := M 7 2) 0 dX7_hear_69 rfl rf_X7_83 rfl rfl rfl rfl ?_))
            refine k_ifne hK (q := 75) (t := 82) dX7_hear_72 rfl rfl (fun h72 => ?_) (fun h72 => ?_)
            · exact J82 M hs (hN (by omega)) (frX_refl _ _) ⟨by omega, by omega, by rw [← hlt]; omega⟩ (by omega) (by omega)
            · refine k_aln hK (q := 76)  dX7_hear_75 rfl (z := 0) rfl (k_gR hK (q := 79) (r := 10) dX7_hear_76 rfl rf_X7_28 rfl rfl ?_)
              refine k_iv0 hK (q := 82) dX7_hear_79 rfl rm_X7_132 rfl rfl (Nat.le_of_ble_eq_true rfl) (xc_lay _ M S hs hS) (fun r9 M5 h9 => ?_)
              obtain ⟨rfl, hN5, f5⟩ := h9
              show K 82 [some (vR 0), some (vI p), some (vI t9)] [] M5
              exact J82 M5 (by rw [scC_fr (frX_S f5 (by decide))]; exact hs) hN5 f5 ⟨by omega, by omega, by rw [← hlt]; omega⟩ (by omega) (by omega)
          · refine k_bp hK (q := 64)  dX7_hear_62 rfl (by decide) ?_
            refine k_ir hK dX7_hear_64 rfl ?_
            refine PC_same (c := -4) ?_ hI0
            unfold aHear
            rw [if_neg (fun q => q ⟨by omega, by omega, by rw [← hlt]; omega⟩), if_neg (by omega), if_pos (by omega)]
        · refine k_bp hK (q := 49)  dX7_hear_47 rfl (by decide) ?_
          refine k_ir hK dX7_hear_49 rfl ?_
          refine PC_same (c := -3) ?_ hI0
          unfold aHear
          rw [if_neg (fun q => q ⟨by omega, by omega, by rw [← hlt]; omega⟩), if_pos (by omega)]
      · refine k_bp hK (q := 36)  dX7_hear_34 rfl (by decide) ?_
        refine k_ir hK dX7_hear_36 rfl ?_
        refine PC_same (c := -2) ?_ hI0
        unfold aHear
        rw [if_pos (by intro q; have q3 := q.2.2; rw [← hlt] at q3; omega)]
    · have h17 := bi_0.mp h17
      refine k_bp hK (q := 22)  dX7_hear_20 rfl (by decide) ?_
      refine k_ir hK dX7_hear_22 rfl ?_
      refine PC_same (c := -2) ?_ hI0
      unfold aHear
      rw [if_pos (by intro q; have q3 := q.2.2; rw [← hlt] at q3; omega)]

set_option maxRecDepth 20000 in
set_option maxHeartbeats 2000000 in
theorem cut_loop {d : Nat} {Q : Option ra_V → ra_M → Prop} {K : Nat → ra_L → List ra_V → ra_M → Prop} (hK : ra_Clo (Ex (d + 4)) m_X7_cut cX7_cut Q K) {S : Sc} (hS : okSc S) {hp : Int → Int} {M0 : ra_M} {m : Nat} (hm : m ≤ 120) (hnn : 0 < m → 0 < S 0 0)
    (hX : ∀ M, FA S hp m M → AnC M (AN S hp m) → frX [15, 16, 17, 18, 19, 20] M0 M → ∀ z, K 48 [some (vR 0), some (vI (m : Nat)), some (vI z)] [] M) :
    ∀ (n i : Nat) (M : ra_M), i + n = m → scC M = S → M 8 = hp → (0 < m → NxA M S) → FA S hp i M → AnC M (AN S hp i) → frX [15, 16, 17, 18, 19, 20] M0 M → K 32 [some (vR 0), some (vI (m : Nat)), some (vI (i : Nat))] [] M := by
  intro n
  induction n with
  | zero =>
    intro i M hi hs h8 hN hF hA hf
    refine k_iln hK (q := 33)  dX7_cut_32 rfl (z := (i : Nat)) rfl (k_iln hK (q := 34)  dX7_cut_33 rfl (z := (m : Nat)) rfl ?_)
    refine k_cge hK (q := 37) (t := 48) dX7_cut_34 rfl rfl (fun h34 => ?_) (fun h34 => ?_)
    · have hi2 : i = m := by omega
      subst hi2
      exact hX M hF hA hf _
    · exact absurd h34 (by omega)
  | succ n ih =>
    intro i M hi hs h8 hN hF hA hf
    refine k_iln hK (q := 33)  dX7_cut_32 rfl (z := (i : Nat)) rfl (k_iln hK (q := 34)  dX7_cut_33 rfl (z := (m : Nat)) rfl ?_)
    refine k_cge hK (q := 37) (t := 48) dX7_cut_34 rfl rfl (fun h34 => ?_) (fun h34 => ?_)
    · exact absurd h34 (by omega)
    · refine k_aln hK (q := 38)  dX7_cut_37 rfl (z := 0) rfl (k_iln hK (q := 39)  dX7_cut_38 rfl (z := (i : Nat)) rfl ?_)
      refine k_iv1 hK (q := 42) dX7_cut_39 rfl rm_X7_138 rfl rfl (Nat.le_of_ble_eq_true rfl) (xc_followOn _ M S hs hS hp i (by omega) (hnn (by omega)) (hN (by omega)).1 h8 hF hA) (fun r9 M4 h9 => ?_)
      obtain ⟨rfl, hF4, hA4, f4⟩ := h9
      show K 42 [some (vR 0), some (vI (m : Nat)), some (vI (i : Nat))] [] M4
      refine k_inc hK (q := 45)  dX7_cut_42 rfl (y := (i : Nat) + 1) (L2 := [some (vR 0), some (vI (m : Nat)), some (vI ((i : Nat) + 1))]) rfl rfl (by omega) rfl (k_goto hK (t := 32) dX7_cut_45 rfl ?_)
      exact ih (i + 1) M4 (by omega) (by rw [scC_fr (frX_S f4 (by decide))]; exact hs) (by rw [f4 8 (by decide)]; exact h8) (fun q => NxA_fr (hN q) (fun x a b => f4 x (by simp; omega))) hF4 hA4 (frX_trans hf f4)

set_option maxRecDepth 20000 in
set_option maxHeartbeats 2000000 in
theorem xc_cut (d t : Nat) (M : ra_M) (S : Sc) (cnt : Int) (hp ht : Int → Int) (ses : Int) (bx du : Int → Int) (al : Al8) (hI : IC S cnt hp ht ses bx du al M) (hw : WF t S cnt hp ht ses bx al) (n9 : Int) : Ex (d + 5) m_X7_cut [vR 0, vI n9] M (PC M (aCut S cnt hp ht ses bx du al n9)) := by
  refine Ex_call (Nat.le_of_ble_eq_true rfl) (fun K hK => ?_)
  show K 0 [some (vR 0), some (vI n9), none] [] M
  have hK : ra_Clo _ m_X7_cut cX7_cut _ K := hK
  have hI0 := hI
  obtain ⟨hs, ⟨g7, g8, g9⟩, ⟨g29, g30, g31⟩, hN, hF, hA, hL⟩ := hI
  obtain ⟨hS, hc, hnn, hh, hse, hbx, hal⟩ := hw
  obtain ⟨e5, e6, e7, e8, e9⟩ := scC_e hs
  obtain ⟨a2, a3, a4, a5, a6⟩ := scC_a hs
  have hs0 := hS.1
  have hs1 := hS.2.1
  have hs2 := hS.2.2.1
  refine k_iln hK (q := 1)  dX7_cut_0 rfl (z := n9) rfl (k_ic hK (q := 2)  dX7_cut_1 rfl (by decide) (k_aln hK (q := 3)  dX7_cut_2 rfl (z := 0) rfl (k_gR hK (q := 6) (r := 7) dX7_cut_3 rfl rf_X7_19 rfl rfl (k_gI hK (q := 9) (z := M 7 2) 0 dX7_cut_6 rfl rf_X7_83 rfl rfl rfl rfl ?_))))
  refine k_st3I hK (q := 12) dX7_cut_9 rfl rm_X7_74 (Nat.le_of_ble_eq_true rfl) (t_isWithin _ M n9 0 (M 7 2)) ?_
  refine k_ifne hK (q := 15) (t := 18) dX7_cut_12 rfl rfl (fun h12 => ?_) (fun h12 => ?_)
  · have h12 := bi_1.mp h12
    obtain ⟨m, rfl⟩ : ∃ m : Nat, n9 = (m : Nat) := ⟨n9.toNat, by omega⟩
    refine k_aln hK (q := 19)  dX7_cut_18 rfl (z := 0) rfl ?_
    refine k_iv0 hK (q := 22) dX7_cut_19 rfl rm_X7_71 rfl rfl (Nat.le_of_ble_eq_true rfl) (xc_hearN _ M) (fun r9 M5 h9 => ?_)
    obtain ⟨rfl, h57, h516, h515, h518, h521, f5⟩ := h9
    show K 22 [some (vR 0), some (vI (m : Nat)), none] [] M5
    refine k_aln hK (q := 23)  dX7_cut_22 rfl (z := 0) rfl (k_gR hK (q := 26) (r := 7) dX7_cut_23 rfl rf_X7_19 rfl rfl (k_iln hK (q := 27)  dX7_cut_26 rfl (z := (m : Nat)) rfl (k_pI hK (q := 30) (M2 := up M5 7 2 (m : Nat)) dX7_cut_27 rfl rp_X7_83 rfl rfl rfl (k_ic hK (q := 31)  dX7_cut_30 rfl (by decide) (k_isn hK (q := 32)  dX7_cut_31 rfl (L2 := [some (vR 0), some (vI (m : Nat)), some (vI 0)]) (Nat.le_of_ble_eq_true rfl) rfl ?_)))))
    have hX : ∀ M4, (m = 0 → ∀ j, 0 ≤ j → j ≤ 60 → M4 16 j = v00 j) → FA S hp m M4 → AnC M4 (AN S hp m) → frX [15, 16, 17, 18, 19, 20] (up M5 7 2 (m : Nat)) M4 → ∀ z, K 48 [some (vR 0), some (vI (m : Nat)), some (vI z)] [] M4 := by
      intro M4 hz hF4 hA4 f4 z
      refine k_aln hK (q := 49)  dX7_cut_48 rfl (z := 0) rfl (k_gR hK (q := 52) (r := 15) dX7_cut_49 rfl rf_X7_37 rfl rfl (k_gI hK (q := 55) (z := M4 15 5) 0 dX7_cut_52 rfl rf_X7_145 rfl rfl rfl rfl ?_))
      refine k_ir hK dX7_cut_55 rfl ?_
      unfold aCut
      rw [if_neg (by omega)]
      have hfr : ∀ x, x ∉ [7, 15, 16, 17, 18, 19, 20, 21] → M4 x = M x := by
        intro x hx
        simp only [List.mem_cons, List.not_mem_nil, or_false, not_or] at hx
        rw [f4 x (by simp; omega), up_k _ _ _ (by omega), f5 x (by simp; omega)]
      have hm9 : (((m : Nat) : Int).toNat) = m := by omega
      refine ⟨by rw [hF4.2, hm9], ⟨by rw [scC_fr (M := M) (fun x a b => hfr x (by simp; omega))]; exact hs, ⟨by rw [f4 7 (by decide), up_same], by rw [hfr 8 (by decide)]; exact g8, by rw [hfr 9 (by decide)]; exact g9⟩, ⟨by rw [hfr 29 (by decide)]; exact g29, by rw [hfr 30 (by decide)]; exact g30, by rw [hfr 31 (by decide)]; exact g31⟩, fun q => NxA_fr (hN (by have q2 : (0 : Int) < (m : Nat) := q; omega)) (fun x a b => hfr x (by simp; omega)), ⟨by simp only; rw [hm9]; exact hF4, fun q j a b => ?_⟩, by simp only; rw [hm9]; exact hA4, ?_⟩, fun x hx => hfr x (by simp; omega)⟩
      · have q2 : ((m : Nat) : Int) = 0 := q
        have q3 : m = 0 := by omega
        subst q3
        exact hz rfl j a b
      · show (_ : Int) = 0
        rw [f4 21 (by decide), up_k _ _ _ (by omega)]
        exact h521
    have hF0 : FA S hp 0 (up M5 7 2 (m : Nat)) := ⟨fun j hj => by rw [up_k _ _ _ (by omega)]; exact h516 j hj.1 (by have := hj.2; omega), by rw [up_k _ _ _ (by omega)]; exact h515⟩
    have hA0 : AnC (up M5 7 2 (m : Nat)) (AN S hp 0) := AnC_nil (by rw [up_k _ _ _ (by omega)]; exact h518)
    by_cases hm0 : m = 0
    · subst hm0
      have h16 : ∀ j, 0 ≤ j → j ≤ 60 → (up M5 7 2 ((0 : Nat) : Int)) 16 j = v00 j := fun j a b => by rw [up_k _ _ _ (by omega)]; exact h516 j a b
      refine k_iln hK (q := 33) dX7_cut_32 rfl (z := 0) rfl (k_iln hK (q := 34) dX7_cut_33 rfl (z := ((0 : Nat) : Int)) rfl ?_)
      refine k_cge hK (q := 37) (t := 48) dX7_cut_34 rfl rfl (fun _ => ?_) (fun h => absurd h (by decide))
      exact hX _ (fun _ => h16) hF0 hA0 (frX_refl _ _) 0
    · exact cut_loop hK hS (hp := hp) (M0 := up M5 7 2 (m : Nat)) (m := m) (by omega) (fun _ => hnn (by omega)) (fun M4 hF4 hA4 f4 z => hX M4 (fun q => absurd q hm0) hF4 hA4 f4 z) m 0 _ (by omega) (by rw [scC_o _ _ _ (by omega), scC_fr (frX_S f5 (by decide))]; exact hs) (by rw [up_k _ _ _ (by omega), f5 8 (by decide)]; exact g8) (fun q => NxA_fr (hN (by omega)) (fun x a b => by rw [up_k _ _ _ (by omega)]; exact f5 x (by simp; omega))) hF0 hA0 (frX_refl _ _)
  · have h12 := bi_0.mp h12
    refine k_bp hK (q := 17)  dX7_cut_15 rfl (by decide) ?_
    refine k_ir hK dX7_cut_17 rfl ?_
    refine PC_same (c := -2) ?_ hI0
    unfold aCut
    rw [if_pos (by omega)]

set_option maxRecDepth 20000 in
set_option maxHeartbeats 2000000 in
theorem xc_valueOf (d t : Nat) (M : ra_M) (S : Sc) (cnt : Int) (hp ht : Int → Int) (ses : Int) (bx du : Int → Int) (al : Al8) (hI : IC S cnt hp ht ses bx du al M) (hw : WF t S cnt hp ht ses bx al) (p : Int) : Ex (d + 1) m_X7_valueOf [vR 0, vI p] M (fun r M2 => r = some (vI (aVal S cnt hp p)) ∧ M2 = M) := by
  refine Ex_call (Nat.le_of_ble_eq_true rfl) (fun K hK => ?_)
  show K 0 [some (vR 0), some (vI p), none] [] M
  have hK : ra_Clo _ m_X7_valueOf cX7_valueOf _ K := hK
  have hI0 := hI
  obtain ⟨hs, ⟨g7, g8, g9⟩, ⟨g29, g30, g31⟩, hN, hF, hA, hL⟩ := hI
  obtain ⟨hS, hc, hnn, hh, hse, hbx, hal⟩ := hw
  obtain ⟨e5, e6, e7, e8, e9⟩ := scC_e hs
  obtain ⟨a2, a3, a4, a5, a6⟩ := scC_a hs
  have hs0 := hS.1
  have hs1 := hS.2.1
  have hs2 := hS.2.2.1
  have hNV : NV = 1000000000 := rfl
  have hv : -1 ≤ p → p < S 0 0 → M 16 (p + 1) = (FVP S hp cnt.toNat).1 (p + 1) := fun a b => hF.1.1 (p + 1) ⟨by omega, by omega⟩
  refine k_iln hK (q := 1)  dX7_valueOf_0 rfl (z := p) rfl (k_ic hK (q := 2)  dX7_valueOf_1 rfl (by decide) ?_)
  refine k_ceq hK (q := 5) (t := 19) dX7_valueOf_2 rfl rfl (fun h2 => ?_) (fun h2 => ?_)
  · refine k_aln hK (q := 20)  dX7_valueOf_19 rfl (z := 0) rfl (k_gR hK (q := 23) (r := 15) dX7_valueOf_20 rfl rf_X7_37 rfl rfl (k_iln hK (q := 24)  dX7_valueOf_23 rfl (z := p) rfl ?_))
    refine k_iv1I hK (q := 27) dX7_valueOf_24 rfl rm_X7_148 rfl rfl (Nat.le_of_ble_eq_true rfl) (xc_valueAt _ M p (by omega)) ?_
    rw [hv (by omega) (by omega)]
    refine k_isn hK (q := 28)  dX7_valueOf_27 rfl (L2 := [some (vR 0), some (vI p), some (vI ((FVP S hp cnt.toNat).1 (p + 1)))]) (Nat.le_of_ble_eq_true rfl) rfl (k_iln hK (q := 29)  dX7_valueOf_28 rfl (z := ((FVP S hp cnt.toNat).1 (p + 1))) rfl (k_ldc hK (q := 31)  dX7_valueOf_29 rfl rc_X7_152 ?_))
    refine k_clt hK (q := 34) (t := 38) dX7_valueOf_31 rfl rfl (fun h31 => ?_) (fun h31 => ?_)
    · refine k_iln hK (q := 39)  dX7_valueOf_38 rfl (z := ((FVP S hp cnt.toNat).1 (p + 1))) rfl ?_
      refine k_ir hK dX7_valueOf_39 rfl ?_
      refine ⟨?_, rfl⟩
      unfold aVal
      rw [if_neg (by omega), if_neg (by omega)]
    · refine k_ic hK (q := 35)  dX7_valueOf_34 rfl (by decide) (k_goto hK (t := 39) dX7_valueOf_35 rfl ?_)
      refine k_ir hK dX7_valueOf_39 rfl ?_
      refine ⟨?_, rfl⟩
      unfold aVal
      rw [if_neg (by omega), if_pos (by omega)]
  · refine k_aln hK (q := 6)  dX7_valueOf_5 rfl (z := 0) rfl (k_gR hK (q := 9) (r := 1) dX7_valueOf_6 rfl rf_X7_12 rfl rfl (k_iln hK (q := 10)  dX7_valueOf_9 rfl (z := p) rfl ?_))
    refine k_iv1I hK (q := 13) dX7_valueOf_10 rfl rm_X7_101 rfl rfl (Nat.le_of_ble_eq_true rfl) (t_isNote _ M p) ?_
    refine k_ifne hK (q := 16) (t := 19) dX7_valueOf_13 rfl rfl (fun h13 => ?_) (fun h13 => ?_)
    · have h13 := bi_1.mp h13
      refine k_aln hK (q := 20)  dX7_valueOf_19 rfl (z := 0) rfl (k_gR hK (q := 23) (r := 15) dX7_valueOf_20 rfl rf_X7_37 rfl rfl (k_iln hK (q := 24)  dX7_valueOf_23 rfl (z := p) rfl ?_))
      refine k_iv1I hK (q := 27) dX7_valueOf_24 rfl rm_X7_148 rfl rfl (Nat.le_of_ble_eq_true rfl) (xc_valueAt _ M p (by omega)) ?_
      rw [hv (by omega) (by omega)]
      refine k_isn hK (q := 28)  dX7_valueOf_27 rfl (L2 := [some (vR 0), some (vI p), some (vI ((FVP S hp cnt.toNat).1 (p + 1)))]) (Nat.le_of_ble_eq_true rfl) rfl (k_iln hK (q := 29)  dX7_valueOf_28 rfl (z := ((FVP S hp cnt.toNat).1 (p + 1))) rfl (k_ldc hK (q := 31)  dX7_valueOf_29 rfl rc_X7_152 ?_))
      refine k_clt hK (q := 34) (t := 38) dX7_valueOf_31 rfl rfl (fun h31 => ?_) (fun h31 => ?_)
      · refine k_iln hK (q := 39)  dX7_valueOf_38 rfl (z := ((FVP S hp cnt.toNat).1 (p + 1))) rfl ?_
        refine k_ir hK dX7_valueOf_39 rfl ?_
        refine ⟨?_, rfl⟩
        unfold aVal
        rw [if_neg (by omega), if_neg (by omega)]
      · refine k_ic hK (q := 35)  dX7_valueOf_34 rfl (by decide) (k_goto hK (t := 39) dX7_valueOf_35 rfl ?_)
        refine k_ir hK dX7_valueOf_39 rfl ?_
        refine ⟨?_, rfl⟩
        unfold aVal
        rw [if_neg (by omega), if_pos (by omega)]
    · have h13 := bi_0.mp h13
      refine k_bp hK (q := 18)  dX7_valueOf_16 rfl (by decide) ?_
      refine k_ir hK dX7_valueOf_18 rfl ?_
      refine ⟨?_, rfl⟩
      unfold aVal
      rw [if_pos (by omega)]

set_option maxRecDepth 20000 in
set_option maxHeartbeats 2000000 in
theorem xc_tempo (d t : Nat) (M : ra_M) (S : Sc) (cnt : Int) (hp ht : Int → Int) (ses : Int) (bx du : Int → Int) (al : Al8) (hI : IC S cnt hp ht ses bx du al M) (hw : WF t S cnt hp ht ses bx al) (side : Int) : Ex (d + 3) m_X7_tempo [vR 0, vI side] M (fun r M2 => r = some (vI (aTem S cnt hp ht side)) ∧ M2 = M) := by
  refine Ex_call (Nat.le_of_ble_eq_true rfl) (fun K hK => ?_)
  show K 0 [some (vR 0), some (vI side)] [] M
  have hK : ra_Clo _ m_X7_tempo cX7_tempo _ K := hK
  have hI0 := hI
  obtain ⟨hs, ⟨g7, g8, g9⟩, ⟨g29, g30, g31⟩, hN, hF, hA, hL⟩ := hI
  obtain ⟨hS, hc, hnn, hh, hse, hbx, hal⟩ := hw
  obtain ⟨e5, e6, e7, e8, e9⟩ := scC_e hs
  obtain ⟨a2, a3, a4, a5, a6⟩ := scC_a hs
  have hs0 := hS.1
  have hs1 := hS.2.1
  have hs2 := hS.2.2.1
  have hoA := okAN S hp cnt.toNat
  rw [show (((cnt.toNat : Nat) : Nat) : Int) = cnt by omega] at hoA
  have hh9 : okH9 (M 9) cnt := by rw [g9]; exact hh
  have htg := tg_in hh9 hoA
  have hsg := sg_pos hS hoA
  rw [g9] at htg
  refine k_iln hK (q := 1)  dX7_tempo_0 rfl (z := side) rfl (k_ic hK (q := 2)  dX7_tempo_1 rfl (by decide) (k_ic hK (q := 3)  dX7_tempo_2 rfl (by decide) ?_))
  refine k_st3I hK (q := 6) dX7_tempo_3 rfl rm_X7_74 (Nat.le_of_ble_eq_true rfl) (t_isWithin _ M side 0 1) ?_
  refine k_ifne hK (q := 9) (t := 12) dX7_tempo_6 rfl rfl (fun h6 => ?_) (fun h6 => ?_)
  · have h6 := bi_1.mp h6
    refine k_aln hK (q := 13)  dX7_tempo_12 rfl (z := 0) rfl (k_gR hK (q := 16) (r := 18) dX7_tempo_13 rfl rf_X7_46 rfl rfl ?_)
    refine k_iv0I hK (q := 19) dX7_tempo_16 rfl rm_X7_153 rfl rfl (Nat.le_of_ble_eq_true rfl) (xc_timeGone _ M S hs hS (AN S hp cnt.toNat) cnt hA hoA (by omega) hh9) ?_
    rw [g9]
    refine k_aln hK (q := 20)  dX7_tempo_19 rfl (z := 0) rfl (k_gR hK (q := 23) (r := 18) dX7_tempo_20 rfl rf_X7_46 rfl rfl ?_)
    refine k_iv0I hK (q := 26) dX7_tempo_23 rfl rm_X7_156 rfl rfl (Nat.le_of_ble_eq_true rfl) (xc_startGrown _ M S hs hS (AN S hp cnt.toNat) cnt hA hoA (by omega)) ?_
    refine k_iln hK (q := 27)  dX7_tempo_26 rfl (z := side) rfl ?_
    refine k_st3I hK (q := 30) dX7_tempo_27 rfl rm_X7_159 (Nat.le_of_ble_eq_true rfl) (xc_lowest _ M (tgF ht (AN S hp cnt.toNat)) (sgF S (AN S hp cnt.toNat)) side (by omega) (by omega)) ?_
    refine k_ir hK dX7_tempo_30 rfl ?_
    refine ⟨?_, rfl⟩
    unfold aTem
    rw [if_neg (by omega)]
  · have h6 := bi_0.mp h6
    refine k_bp hK (q := 11)  dX7_tempo_9 rfl (by decide) ?_
    refine k_ir hK dX7_tempo_11 rfl ?_
    refine ⟨?_, rfl⟩
    unfold aTem
    rw [if_pos (by omega)]

set_option maxRecDepth 20000 in
set_option maxHeartbeats 2000000 in
theorem xc_ahead (d t : Nat) (M : ra_M) (S : Sc) (cnt : Int) (hp ht : Int → Int) (ses : Int) (bx du : Int → Int) (al : Al8) (hI : IC S cnt hp ht ses bx du al M) (hw : WF t S cnt hp ht ses bx al) (n : Int) : Ex (d + 4) m_X7_ahead [vR 0, vI n] M (fun r M2 => r = some (vJ (aAhd S cnt hp ht n)) ∧ M2 = M) := by
  refine Ex_call (Nat.le_of_ble_eq_true rfl) (fun K hK => ?_)
  show K 0 [some (vR 0), some (vI n)] [] M
  have hK : ra_Clo _ m_X7_ahead cX7_ahead _ K := hK
  have hI0 := hI
  obtain ⟨hs, ⟨g7, g8, g9⟩, ⟨g29, g30, g31⟩, hN, hF, hA, hL⟩ := hI
  obtain ⟨hS, hc, hnn, hh, hse, hbx, hal⟩ := hw
  obtain ⟨e5, e6, e7, e8, e9⟩ := scC_e hs
  obtain ⟨a2, a3, a4, a5, a6⟩ := scC_a hs
  have hs0 := hS.1
  have hs1 := hS.2.1
  have hs2 := hS.2.2.1
  have hoA := okAN S hp cnt.toNat
  rw [show (((cnt.toNat : Nat) : Nat) : Int) = cnt by omega] at hoA
  have hh9 : okH9 (M 9) cnt := by rw [g9]; exact hh
  have htg := tg_in hh9 hoA
  have hsg := sg_pos hS hoA
  rw [g9] at htg
  have hAl := hA.1
  refine k_aln hK (q := 1)  dX7_ahead_0 rfl (z := 0) rfl (k_gR hK (q := 4) (r := 1) dX7_ahead_1 rfl rf_X7_12 rfl rfl (k_iln hK (q := 5)  dX7_ahead_4 rfl (z := n) rfl ?_))
  refine k_iv1I hK (q := 8) dX7_ahead_5 rfl rm_X7_101 rfl rfl (Nat.le_of_ble_eq_true rfl) (t_isNote _ M n) ?_
  refine k_ifne hK (q := 11) (t := 15) dX7_ahead_8 rfl rfl (fun h8 => ?_) (fun h8 => ?_)
  · have h8 := bi_1.mp h8
    refine k_aln hK (q := 16)  dX7_ahead_15 rfl (z := 0) rfl (k_gR hK (q := 19) (r := 18) dX7_ahead_16 rfl rf_X7_46 rfl rfl (k_gI hK (q := 22) (z := M 18 4) 0 dX7_ahead_19 rfl rf_X7_165 rfl rfl rfl rfl ?_))
    refine k_ifne hK (q := 25) (t := 29) dX7_ahead_22 rfl rfl (fun h22 => ?_) (fun h22 => ?_)
    · refine k_aln hK (q := 30)  dX7_ahead_29 rfl (z := 0) rfl (k_gR hK (q := 33) (r := 18) dX7_ahead_30 rfl rf_X7_46 rfl rfl (k_iln hK (q := 34)  dX7_ahead_33 rfl (z := n) rfl ?_))
      refine k_iv1J hK (q := 37) dX7_ahead_34 rfl rm_X7_168 rfl rfl (Nat.le_of_ble_eq_true rfl) (xc_expected _ M n S hs hS (AN S hp cnt.toNat) cnt hA hoA (by omega) hh9 (by omega) (fun q => by rw [q] at hAl; simp at hAl; omega)) ?_
      rw [g9]
      refine k_lr hK dX7_ahead_37 rfl ?_
      refine ⟨?_, rfl⟩
      unfold aAhd
      rw [if_neg (by omega), if_neg (by omega)]
    · refine k_ldc2 hK (q := 28)  dX7_ahead_25 rfl rc_X7_166 ?_
      refine k_lr hK dX7_ahead_28 rfl ?_
      refine ⟨?_, rfl⟩
      unfold aAhd
      rw [if_neg (by omega), if_pos (by omega)]
  · have h8 := bi_0.mp h8
    refine k_ldc2 hK (q := 14)  dX7_ahead_11 rfl rc_X7_163 ?_
    refine k_lr hK dX7_ahead_14 rfl ?_
    refine ⟨?_, rfl⟩
    unfold aAhd
    rw [if_pos (by omega)]

def PA (S : Sc) (cnt : Int) (hp ht : Int → Int) (ses : Int) (bx du : Int → Int) (al : Al8) (M : ra_M) (r : Option ra_V) (M2 : ra_M) : Prop := (S 0 0 = 0 ∧ r = some (vI (-3)) ∧ M2 = M) ∨ (S 0 0 ≠ 0 ∧ ∃ sum ls, AlS S hp cnt sum ls ∧ r = some (vI sum) ∧ IC S cnt hp ht ses bx du (some (sum, ls)) M2 ∧ clF M M2)

set_option maxRecDepth 20000 in
set_option maxHeartbeats 2000000 in
theorem xc_align (d t : Nat) (M : ra_M) (S : Sc) (cnt : Int) (hp ht : Int → Int) (ses : Int) (bx du : Int → Int) (al : Al8) (hI : IC S cnt hp ht ses bx du al M) (hw : WF t S cnt hp ht ses bx al) : Ex (d + 8) m_X7_align [vR 0] M (PA S cnt hp ht ses bx du al M) := by
  refine Ex_call (Nat.le_of_ble_eq_true rfl) (fun K hK => ?_)
  show K 0 [some (vR 0)] [] M
  have hK : ra_Clo _ m_X7_align cX7_align _ K := hK
  have hI0 := hI
  obtain ⟨hs, ⟨g7, g8, g9⟩, ⟨g29, g30, g31⟩, hN, hF, hA, hL⟩ := hI
  obtain ⟨hS, hc, hnn, hh, hse, hbx, hal⟩ := hw
  obtain ⟨e5, e6, e7, e8, e9⟩ := scC_e hs
  obtain ⟨a2, a3, a4, a5, a6⟩ := scC_a hs
  have hs0 := hS.1
  have hs1 := hS.2.1
  have hs2 := hS.2.2.1
  have hk9 := known_cases (ht := ht) (ses := ses) (bx := bx) (du := du) hL
  refine k_aln hK (q := 1)  dX7_align_0 rfl (z := 0) rfl (k_gR hK (q := 4) (r := 1) dX7_align_1 rfl rf_X7_12 rfl rfl (k_gI hK (q := 7) (z := M 1 5) 0 dX7_align_4 rfl rf_X7_90 rfl rfl rfl rfl ?_))
  refine k_ifne hK (q := 10) (t := 13) dX7_align_7 rfl rfl (fun h7 => ?_) (fun h7 => ?_)
  · refine k_aln hK (q := 14)  dX7_align_13 rfl (z := 0) rfl (k_gR hK (q := 17) (r := 21) dX7_align_14 rfl rf_X7_53 rfl rfl (k_gI hK (q := 20) (z := M 21 10) 1 dX7_align_17 rfl rf_X7_141 rfl rfl rfl rfl ?_))
    refine k_ifne hK (q := 23) (t := 30) dX7_align_20 rfl rfl (fun h20 => ?_) (fun h20 => ?_)
    · obtain ⟨q, rfl, hsum, hW, hTL⟩ : ∃ q, al = some q ∧ M 21 11 = q.1 ∧ WS S hp M q.2 cnt ∧ (0 < cnt → TL S hp cnt M q.2) := by
        rcases hk9 with h | h
        · exact absurd h.1 (by omega)
        · exact h.2
      clear hk9
      refine k_aln hK (q := 31)  dX7_align_30 rfl (z := 0) rfl (k_gR hK (q := 34) (r := 21) dX7_align_31 rfl rf_X7_53 rfl rfl (k_gI hK (q := 37) (z := M 21 11) 0 dX7_align_34 rfl rf_X7_175 rfl rfl rfl rfl ?_))
      refine k_ir hK dX7_align_37 rfl ?_
      rw [hsum]
      exact Or.inr ⟨by omega, q.1, q.2, hal q rfl, rfl, hI0, clF_refl _⟩
    · have hal0 : al = none := by
        rcases hk9 with h | h
        · exact h.2
        · exact absurd h.1 (by omega)
      subst hal0
      clear hk9
      refine k_aln hK (q := 24)  dX7_align_23 rfl (z := 0) rfl (k_gR hK (q := 27) (r := 21) dX7_align_24 rfl rf_X7_53 rfl rfl ?_)
      refine k_iv0 hK (q := 30) dX7_align_27 rfl rm_X7_172 rfl rfl (Nat.le_of_ble_eq_true rfl) (xc_find _ M S hs hS cnt hc (by omega) g7 hN) (fun r9 M5 h9 => ?_)
      obtain ⟨rfl, hk5, hsum5, hR5, hW5, hT5, f5⟩ := h9
      show K 30 [some (vR 0)] [] M5
      refine k_aln hK (q := 31)  dX7_align_30 rfl (z := 0) rfl (k_gR hK (q := 34) (r := 21) dX7_align_31 rfl rf_X7_53 rfl rfl (k_gI hK (q := 37) (z := M5 21 11) 0 dX7_align_34 rfl rf_X7_175 rfl rfl rfl rfl ?_))
      refine k_ir hK dX7_align_37 rfl ?_
      refine Or.inr ⟨by omega, M5 21 11, wk S (M 8) (T23 M5) cnt 7320 0 (-1), ⟨T23 M5, by rw [← g8]; exact hR5, by rw [← g8], hsum5⟩, rfl, ?_, clF_X f5 (by decide)⟩
      refine ⟨by rw [scC_fr (frX_S f5 (by decide))]; exact hs, ⟨by rw [f5 7 (by decide)]; exact g7, by rw [f5 8 (by decide)]; exact g8, by rw [f5 9 (by decide)]; exact g9⟩, ⟨by rw [f5 29 (by decide)]; exact g29, by rw [f5 30 (by decide)]; exact g30, by rw [f5 31 (by decide)]; exact g31⟩, NxA_f hN (fun x a b => f5 x (by simp; omega)), FlC_f hF (f5 16 (by decide)) (by rw [f5 15 (by decide)]), AnC_f hA (by rw [f5 18 (by decide)]) (f5 19 (by decide)) (f5 20 (by decide)), hk5, rfl, ?_, fun _ => ?_⟩
      · rw [g8] at hW5 ⊢
        exact hW5
      · rw [g8] at hT5 ⊢
        exact hT5
  · refine k_bp hK (q := 12)  dX7_align_10 rfl (by decide) ?_
    refine k_ir hK dX7_align_12 rfl ?_
    exact Or.inl ⟨by omega, rfl, rfl⟩

set_option maxRecDepth 20000 in
set_option maxHeartbeats 2000000 in
theorem xc_step (d t : Nat) (M : ra_M) (S : Sc) (cnt : Int) (hp ht : Int → Int) (ses : Int) (bx du : Int → Int) (al : Al8) (hI : IC S cnt hp ht ses bx du al M) (hw : WF t S cnt hp ht ses bx al) (k w : Int) (hlen : ∀ q, al = some q → q.2.length ≤ 7320) : Ex (d + 6) m_X7_step [vR 0, vI k, vI w] M (fun r M2 => r = some (vI (aStp al k w)) ∧ IC S cnt hp ht ses bx du al M2 ∧ clF M M2) := by
  refine Ex_call (Nat.le_of_ble_eq_true rfl) (fun K hK => ?_)
  show K 0 [some (vR 0), some (vI k), some (vI w)] [] M
  have hK : ra_Clo _ m_X7_step cX7_step _ K := hK
  have hI0 := hI
  obtain ⟨hs, ⟨g7, g8, g9⟩, ⟨g29, g30, g31⟩, hN, hF, hA, hL⟩ := hI
  obtain ⟨hS, hc, hnn, hh, hse, hbx, hal⟩ := hw
  obtain ⟨e5, e6, e7, e8, e9⟩ := scC_e hs
  obtain ⟨a2, a3, a4, a5, a6⟩ := scC_a hs
  have hs0 := hS.1
  have hs1 := hS.2.1
  have hs2 := hS.2.2.1
  have hk9 := known_cases (ht := ht) (ses := ses) (bx := bx) (du := du) hL
  refine k_iln hK (q := 1)  dX7_step_0 rfl (z := w) rfl (k_ic hK (q := 2)  dX7_step_1 rfl (by decide) (k_ic hK (q := 3)  dX7_step_2 rfl (by decide) ?_))
  refine k_st3I hK (q := 6) dX7_step_3 rfl rm_X7_74 (Nat.le_of_ble_eq_true rfl) (t_isWithin _ M w 0 3) ?_
  refine k_ifeq hK (q := 9) (t := 13) dX7_step_6 rfl rfl (fun h6 => ?_) (fun h6 => ?_)
  · have h6 := bi_0.mp h6
    refine k_bp hK (q := 15)  dX7_step_13 rfl (by decide) ?_
    refine k_ir hK dX7_step_15 rfl ?_
    refine ⟨?_, hI0, clF_refl _⟩
    unfold aStp
    rw [if_pos (by omega)]
  · have h6 := bi_1.mp h6
    refine k_iln hK (q := 10)  dX7_step_9 rfl (z := k) rfl ?_
    refine k_ifge hK (q := 13) (t := 16) dX7_step_10 rfl rfl (fun h10 => ?_) (fun h10 => ?_)
    · refine k_aln hK (q := 17)  dX7_step_16 rfl (z := 0) rfl (k_gR hK (q := 20) (r := 21) dX7_step_17 rfl rf_X7_53 rfl rfl (k_gI hK (q := 23) (z := M 21 10) 1 dX7_step_20 rfl rf_X7_141 rfl rfl rfl rfl ?_))
      refine k_ifne hK (q := 26) (t := 29) dX7_step_23 rfl rfl (fun h23 => ?_) (fun h23 => ?_)
      · obtain ⟨q, rfl, hsum, hW, hTL⟩ : ∃ q, al = some q ∧ M 21 11 = q.1 ∧ WS S hp M q.2 cnt ∧ (0 < cnt → TL S hp cnt M q.2) := by
          rcases hk9 with h | h
          · exact absurd h.1 (by omega)
          · exact h.2
        clear hk9
        refine k_iln hK (q := 30)  dX7_step_29 rfl (z := k) rfl (k_aln hK (q := 31)  dX7_step_30 rfl (z := 0) rfl (k_gR hK (q := 34) (r := 21) dX7_step_31 rfl rf_X7_53 rfl rfl (k_gI hK (q := 37) (z := M 21 12) 0 dX7_step_34 rfl rf_X7_178 rfl rfl rfl rfl ?_)))
        refine k_clt hK (q := 40) (t := 43) dX7_step_37 rfl rfl (fun h37 => ?_) (fun h37 => ?_)
        · obtain ⟨k9, rfl⟩ : ∃ k9 : Nat, k = (k9 : Nat) := ⟨k.toNat, by omega⟩
          have hkl : k9 < q.2.length := by have := hW.1; omega
          have hc0 : 0 < cnt := by
            by_cases h : cnt = 0
            · exfalso
              have h3 := hal q rfl
              rw [h] at h3
              have h4 := (AlS_0 h3).2
              rw [h4] at hkl
              simp at hkl
            · omega
          have hgs : q.2[k9]? = some (sp S (M 8) (T23 M) k9) := by
            have h3 := (hTL hc0).2.2.1
            rw [← g8] at h3
            rw [h3]
            exact gn_get _ _ _ hkl
          refine k_aln hK (q := 44)  dX7_step_43 rfl (z := 0) rfl (k_gR hK (q := 47) (r := 21) dX7_step_44 rfl rf_X7_53 rfl rfl (k_iln hK (q := 48)  dX7_step_47 rfl (z := (k9 : Nat)) rfl (k_iln hK (q := 49)  dX7_step_48 rfl (z := w) rfl ?_)))
          refine k_iv2 hK (q := 52) dX7_step_49 rfl rm_X7_179 rfl rfl (Nat.le_of_ble_eq_true rfl) (xc_tell _ M S hs hS cnt (by omega) g7 (hN hc0) q.2 (by rw [g8]; exact hTL hc0) k9 w hkl (by have := hlen q rfl; omega) (by omega)) (fun r9 M5 h9 => ?_)
          obtain ⟨rfl, hfc⟩ := h9
          show K 52 [some (vR 0), some (vI (k9 : Nat)), some (vI w)] [vI (stS (sp S (M 8) (T23 M) k9) w)] M5
          refine k_ir hK dX7_step_52 rfl ?_
          refine ⟨?_, IC_frC hI0 hfc, fun x hx => hfc.1 x (by omega)⟩
          unfold aStp
          rw [if_neg (by omega)]
          simp only
          rw [show (((k9 : Nat) : Int).toNat) = k9 by omega, hgs]
        · refine k_bp hK (q := 42)  dX7_step_40 rfl (by decide) ?_
          refine k_ir hK dX7_step_42 rfl ?_
          refine ⟨?_, hI0, clF_refl _⟩
          unfold aStp
          rw [if_neg (by omega)]
          simp only
          rw [List.getElem?_eq_none (by have := hW.1; omega)]
      · have hal0 : al = none := by
          rcases hk9 with h | h
          · exact h.2
          · exact absurd h.1 (by omega)
        subst hal0
        clear hk9
        refine k_bp hK (q := 28)  dX7_step_26 rfl (by decide) ?_
        refine k_ir hK dX7_step_28 rfl ?_
        refine ⟨?_, hI0, clF_refl _⟩
        unfold aStp
        rw [if_neg (by omega)]
    · refine k_bp hK (q := 15)  dX7_step_13 rfl (by decide) ?_
      refine k_ir hK dX7_step_15 rfl ?_
      refine ⟨?_, hI0, clF_refl _⟩
      unfold aStp
      rw [if_pos (by omega)]

set_option maxRecDepth 20000 in
set_option maxHeartbeats 2000000 in
theorem xc_steps (d t : Nat) (M : ra_M) (S : Sc) (cnt : Int) (hp ht : Int → Int) (ses : Int) (bx du : Int → Int) (al : Al8) (hI : IC S cnt hp ht ses bx du al M) (hw : WF t S cnt hp ht ses bx al) : Ex (d + 1) m_X7_steps [vR 0] M (fun r M2 => r = some (vI (aSts al)) ∧ M2 = M) := by
  refine Ex_call (Nat.le_of_ble_eq_true rfl) (fun K hK => ?_)
  show K 0 [some (vR 0)] [] M
  have hK : ra_Clo _ m_X7_steps cX7_steps _ K := hK
  have hI0 := hI
  obtain ⟨hs, ⟨g7, g8, g9⟩, ⟨g29, g30, g31⟩, hN, hF, hA, hL⟩ := hI
  obtain ⟨hS, hc, hnn, hh, hse, hbx, hal⟩ := hw
  obtain ⟨e5, e6, e7, e8, e9⟩ := scC_e hs
  obtain ⟨a2, a3, a4, a5, a6⟩ := scC_a hs
  have hs0 := hS.1
  have hs1 := hS.2.1
  have hs2 := hS.2.2.1
  have hk9 := known_cases (ht := ht) (ses := ses) (bx := bx) (du := du) hL
  refine k_aln hK (q := 1)  dX7_steps_0 rfl (z := 0) rfl (k_gR hK (q := 4) (r := 21) dX7_steps_1 rfl rf_X7_53 rfl rfl (k_gI hK (q := 7) (z := M 21 10) 1 dX7_steps_4 rfl rf_X7_141 rfl rfl rfl rfl ?_))
  refine k_ifeq hK (q := 10) (t := 20) dX7_steps_7 rfl rfl (fun h7 => ?_) (fun h7 => ?_)
  · have hal0 : al = none := by
      rcases hk9 with h | h
      · exact h.2
      · exact absurd h.1 (by omega)
    subst hal0
    clear hk9
    refine k_bp hK (q := 22)  dX7_steps_20 rfl (by decide) ?_
    refine k_ir hK dX7_steps_22 rfl ?_
    refine ⟨?_, rfl⟩
    unfold aSts
    rfl
  · obtain ⟨q, rfl, hsum, hW, hTL⟩ : ∃ q, al = some q ∧ M 21 11 = q.1 ∧ WS S hp M q.2 cnt ∧ (0 < cnt → TL S hp cnt M q.2) := by
      rcases hk9 with h | h
      · exact absurd h.1 (by omega)
      · exact h.2
    clear hk9
    refine k_aln hK (q := 11)  dX7_steps_10 rfl (z := 0) rfl (k_gR hK (q := 14) (r := 21) dX7_steps_11 rfl rf_X7_53 rfl rfl (k_gI hK (q := 17) (z := M 21 12) 0 dX7_steps_14 rfl rf_X7_178 rfl rfl rfl rfl (k_goto hK (t := 22) dX7_steps_17 rfl ?_)))
    refine k_ir hK dX7_steps_22 rfl ?_
    refine ⟨?_, rfl⟩
    unfold aSts
    rw [hW.1]

set_option maxRecDepth 20000 in
set_option maxHeartbeats 2000000 in
theorem xc_matched (d t : Nat) (M : ra_M) (S : Sc) (cnt : Int) (hp ht : Int → Int) (ses : Int) (bx du : Int → Int) (al : Al8) (hI : IC S cnt hp ht ses bx du al M) (hw : WF t S cnt hp ht ses bx al) (e : Int) : Ex (d + 1) m_X7_matched [vR 0, vI e] M (fun r M2 => r = some (vI (aMat cnt al e)) ∧ M2 = M) := by
  refine Ex_call (Nat.le_of_ble_eq_true rfl) (fun K hK => ?_)
  show K 0 [some (vR 0), some (vI e)] [] M
  have hK : ra_Clo _ m_X7_matched cX7_matched _ K := hK
  have hI0 := hI
  obtain ⟨hs, ⟨g7, g8, g9⟩, ⟨g29, g30, g31⟩, hN, hF, hA, hL⟩ := hI
  obtain ⟨hS, hc, hnn, hh, hse, hbx, hal⟩ := hw
  obtain ⟨e5, e6, e7, e8, e9⟩ := scC_e hs
  obtain ⟨a2, a3, a4, a5, a6⟩ := scC_a hs
  have hs0 := hS.1
  have hs1 := hS.2.1
  have hs2 := hS.2.2.1
  have hk9 := known_cases (ht := ht) (ses := ses) (bx := bx) (du := du) hL
  refine k_iln hK (q := 1)  dX7_matched_0 rfl (z := e) rfl (k_ic hK (q := 2)  dX7_matched_1 rfl (by decide) (k_aln hK (q := 3)  dX7_matched_2 rfl (z := 0) rfl (k_gR hK (q := 6) (r := 7) dX7_matched_3 rfl rf_X7_19 rfl rfl (k_gI hK (q := 9) (z := M 7 2) 0 dX7_matched_6 rfl rf_X7_83 rfl rfl rfl rfl (k_ic hK (q := 10)  dX7_matched_9 rfl (by decide) ?_)))))
  refine k_sub hK (q := 11)  dX7_matched_10 rfl (z := (M 7 2) - 1) rfl (by omega) ?_
  refine k_st3I hK (q := 14) dX7_matched_11 rfl rm_X7_74 (Nat.le_of_ble_eq_true rfl) (t_isWithin _ M e 0 ((M 7 2) - 1)) ?_
  refine k_ifne hK (q := 17) (t := 20) dX7_matched_14 rfl rfl (fun h14 => ?_) (fun h14 => ?_)
  · have h14 := bi_1.mp h14
    refine k_aln hK (q := 21)  dX7_matched_20 rfl (z := 0) rfl (k_gR hK (q := 24) (r := 21) dX7_matched_21 rfl rf_X7_53 rfl rfl (k_gI hK (q := 27) (z := M 21 10) 1 dX7_matched_24 rfl rf_X7_141 rfl rfl rfl rfl ?_))
    refine k_ifeq hK (q := 30) (t := 42) dX7_matched_27 rfl rfl (fun h27 => ?_) (fun h27 => ?_)
    · have hal0 : al = none := by
        rcases hk9 with h | h
        · exact h.2
        · exact absurd h.1 (by omega)
      subst hal0
      clear hk9
      refine k_bp hK (q := 44)  dX7_matched_42 rfl (by decide) ?_
      refine k_ir hK dX7_matched_44 rfl ?_
      refine ⟨?_, rfl⟩
      unfold aMat
      rw [if_neg (by omega)]
    · obtain ⟨q, rfl, hsum, hW, hTL⟩ : ∃ q, al = some q ∧ M 21 11 = q.1 ∧ WS S hp M q.2 cnt ∧ (0 < cnt → TL S hp cnt M q.2) := by
        rcases hk9 with h | h
        · exact absurd h.1 (by omega)
        · exact h.2
      clear hk9
      refine k_aln hK (q := 31)  dX7_matched_30 rfl (z := 0) rfl (k_gR hK (q := 34) (r := 21) dX7_matched_31 rfl rf_X7_53 rfl rfl (k_gR hK (q := 37) (r := 25) dX7_matched_34 rfl rf_X7_182 rfl rfl (k_iln hK (q := 38)  dX7_matched_37 rfl (z := e) rfl (k_ald hK (q := 39)  dX7_matched_38 rfl (y := M 25 e) rfl (by omega) rfl (k_goto hK (t := 44) dX7_matched_39 rfl ?_)))))
      refine k_ir hK dX7_matched_44 rfl ?_
      refine ⟨?_, rfl⟩
      unfold aMat
      rw [if_neg (by omega), hW.2.2.1 e (by omega) (by omega)]
  · have h14 := bi_0.mp h14
    refine k_bp hK (q := 19)  dX7_matched_17 rfl (by decide) ?_
    refine k_ir hK dX7_matched_19 rfl ?_
    refine ⟨?_, rfl⟩
    unfold aMat
    rw [if_pos (by omega)]

set_option maxRecDepth 20000 in
set_option maxHeartbeats 2000000 in
theorem xc_grade (d t : Nat) (M : ra_M) (S : Sc) (cnt : Int) (hp ht : Int → Int) (ses : Int) (bx du : Int → Int) (al : Al8) (hI : IC S cnt hp ht ses bx du al M) (hw : WF t S cnt hp ht ses bx al) (n w : Int) : Ex (d + 1) m_X7_grade [vR 0, vI n, vI w] M (fun r M2 => r = some (vI (aGra S hp al n w)) ∧ M2 = M) := by
  refine Ex_call (Nat.le_of_ble_eq_true rfl) (fun K hK => ?_)
  show K 0 [some (vR 0), some (vI n), some (vI w)] [] M
  have hK : ra_Clo _ m_X7_grade cX7_grade _ K := hK
  have hI0 := hI
  obtain ⟨hs, ⟨g7, g8, g9⟩, ⟨g29, g30, g31⟩, hN, hF, hA, hL⟩ := hI
  obtain ⟨hS, hc, hnn, hh, hse, hbx, hal⟩ := hw
  obtain ⟨e5, e6, e7, e8, e9⟩ := scC_e hs
  obtain ⟨a2, a3, a4, a5, a6⟩ := scC_a hs
  have hs0 := hS.1
  have hs1 := hS.2.1
  have hs2 := hS.2.2.1
  have hk9 := known_cases (ht := ht) (ses := ses) (bx := bx) (du := du) hL
  refine k_aln hK (q := 1)  dX7_grade_0 rfl (z := 0) rfl (k_gR hK (q := 4) (r := 1) dX7_grade_1 rfl rf_X7_12 rfl rfl (k_iln hK (q := 5)  dX7_grade_4 rfl (z := n) rfl ?_))
  refine k_iv1I hK (q := 8) dX7_grade_5 rfl rm_X7_101 rfl rfl (Nat.le_of_ble_eq_true rfl) (t_isNote _ M n) ?_
  refine k_ifeq hK (q := 11) (t := 20) dX7_grade_8 rfl rfl (fun h8 => ?_) (fun h8 => ?_)
  · have h8 := bi_0.mp h8
    refine k_bp hK (q := 22)  dX7_grade_20 rfl (by decide) ?_
    refine k_ir hK dX7_grade_22 rfl ?_
    refine ⟨?_, rfl⟩
    unfold aGra
    rw [if_pos (by omega)]
  · have h8 := bi_1.mp h8
    refine k_iln hK (q := 12)  dX7_grade_11 rfl (z := w) rfl (k_ic hK (q := 13)  dX7_grade_12 rfl (by decide) (k_ic hK (q := 14)  dX7_grade_13 rfl (by decide) ?_))
    refine k_st3I hK (q := 17) dX7_grade_14 rfl rm_X7_74 (Nat.le_of_ble_eq_true rfl) (t_isWithin _ M w 0 2) ?_
    refine k_ifne hK (q := 20) (t := 23) dX7_grade_17 rfl rfl (fun h17 => ?_) (fun h17 => ?_)
    · have h17 := bi_1.mp h17
      refine k_aln hK (q := 24)  dX7_grade_23 rfl (z := 0) rfl (k_gR hK (q := 27) (r := 21) dX7_grade_24 rfl rf_X7_53 rfl rfl (k_gI hK (q := 30) (z := M 21 10) 1 dX7_grade_27 rfl rf_X7_141 rfl rfl rfl rfl ?_))
      refine k_ifne hK (q := 33) (t := 36) dX7_grade_30 rfl rfl (fun h30 => ?_) (fun h30 => ?_)
      · obtain ⟨q, rfl, hsum, hW, hTL⟩ : ∃ q, al = some q ∧ M 21 11 = q.1 ∧ WS S hp M q.2 cnt ∧ (0 < cnt → TL S hp cnt M q.2) := by
          rcases hk9 with h | h
          · exact absurd h.1 (by omega)
          · exact h.2
        clear hk9
        refine k_iln hK (q := 37)  dX7_grade_36 rfl (z := w) rfl ?_
        refine k_ifne hK (q := 40) (t := 50) dX7_grade_37 rfl rfl (fun h37 => ?_) (fun h37 => ?_)
        · refine k_iln hK (q := 51)  dX7_grade_50 rfl (z := w) rfl (k_ic hK (q := 52)  dX7_grade_51 rfl (by decide) ?_)
          refine k_cne hK (q := 55) (t := 67) dX7_grade_52 rfl rfl (fun h52 => ?_) (fun h52 => ?_)
          · refine k_aln hK (q := 68)  dX7_grade_67 rfl (z := 0) rfl (k_gR hK (q := 71) (r := 21) dX7_grade_68 rfl rf_X7_53 rfl rfl (k_gR hK (q := 74) (r := 28) dX7_grade_71 rfl rf_X7_191 rfl rfl (k_iln hK (q := 75)  dX7_grade_74 rfl (z := n) rfl (k_ald hK (q := 76)  dX7_grade_75 rfl (y := M 28 n) rfl (by omega) rfl ?_))))
            refine k_ir hK dX7_grade_76 rfl ?_
            refine ⟨?_, rfl⟩
            unfold aGra
            have hca := hW.2.1 n (by omega) (by omega)
            rw [if_neg (by omega)]
            simp only
            rw [if_neg h37, if_neg (by omega), hca.2.2]
          · refine k_aln hK (q := 56)  dX7_grade_55 rfl (z := 0) rfl (k_gR hK (q := 59) (r := 21) dX7_grade_56 rfl rf_X7_53 rfl rfl (k_gR hK (q := 62) (r := 27) dX7_grade_59 rfl rf_X7_188 rfl rfl (k_iln hK (q := 63)  dX7_grade_62 rfl (z := n) rfl (k_ald hK (q := 64)  dX7_grade_63 rfl (y := M 27 n) rfl (by omega) rfl (k_goto hK (t := 76) dX7_grade_64 rfl ?_)))))
            refine k_ir hK dX7_grade_76 rfl ?_
            refine ⟨?_, rfl⟩
            unfold aGra
            have hca := hW.2.1 n (by omega) (by omega)
            rw [if_neg (by omega)]
            simp only
            rw [if_neg h37, if_pos (by omega), hca.2.1]
        · refine k_aln hK (q := 41)  dX7_grade_40 rfl (z := 0) rfl (k_gR hK (q := 44) (r := 21) dX7_grade_41 rfl rf_X7_53 rfl rfl (k_gR hK (q := 47) (r := 26) dX7_grade_44 rfl rf_X7_185 rfl rfl (k_iln hK (q := 48)  dX7_grade_47 rfl (z := n) rfl (k_ald hK (q := 49)  dX7_grade_48 rfl (y := M 26 n) rfl (by omega) rfl ?_))))
          refine k_ir hK dX7_grade_49 rfl ?_
          refine ⟨?_, rfl⟩
          unfold aGra
          have hca := hW.2.1 n (by omega) (by omega)
          rw [if_neg (by omega)]
          simp only
          rw [if_pos h37, hca.1]
      · have hal0 : al = none := by
          rcases hk9 with h | h
          · exact h.2
          · exact absurd h.1 (by omega)
        subst hal0
        clear hk9
        refine k_bp hK (q := 35)  dX7_grade_33 rfl (by decide) ?_
        refine k_ir hK dX7_grade_35 rfl ?_
        refine ⟨?_, rfl⟩
        unfold aGra
        rw [if_neg (by omega)]
    · have h17 := bi_0.mp h17
      refine k_bp hK (q := 22)  dX7_grade_20 rfl (by decide) ?_
      refine k_ir hK dX7_grade_22 rfl ?_
      refine ⟨?_, rfl⟩
      unfold aGra
      rw [if_pos (by omega)]

set_option maxRecDepth 20000 in
set_option maxHeartbeats 2000000 in
theorem xc_due (d t : Nat) (M : ra_M) (S : Sc) (cnt : Int) (hp ht : Int → Int) (ses : Int) (bx du : Int → Int) (al : Al8) (hI : IC S cnt hp ht ses bx du al M) (hw : WF t S cnt hp ht ses bx al) (k : Int) (hk : k ≤ 2147483647) : Ex (d + 1) m_X7_due [vR 0, vI k] M (fun r M2 => r = some (vI (aDue S ses bx du k)) ∧ M2 = M) := by
  refine Ex_call (Nat.le_of_ble_eq_true rfl) (fun K hK => ?_)
  show K 0 [some (vR 0), some (vI k)] [] M
  have hK : ra_Clo _ m_X7_due cX7_due _ K := hK
  have hI0 := hI
  obtain ⟨hs, ⟨g7, g8, g9⟩, ⟨g29, g30, g31⟩, hN, hF, hA, hL⟩ := hI
  obtain ⟨hS, hc, hnn, hh, hse, hbx, hal⟩ := hw
  obtain ⟨e5, e6, e7, e8, e9⟩ := scC_e hs
  obtain ⟨a2, a3, a4, a5, a6⟩ := scC_a hs
  have hs0 := hS.1
  have hs1 := hS.2.1
  have hs2 := hS.2.2.1
  refine k_iln hK (q := 1)  dX7_due_0 rfl (z := k) rfl ?_
  refine k_ifge hK (q := 4) (t := 7) dX7_due_1 rfl rfl (fun h1 => ?_) (fun h1 => ?_)
  · refine k_aln hK (q := 8)  dX7_due_7 rfl (z := 0) rfl (k_gR hK (q := 11) (r := 29) dX7_due_8 rfl rf_X7_60 rfl rfl (k_iln hK (q := 12)  dX7_due_11 rfl (z := k) rfl (k_aln hK (q := 13)  dX7_due_12 rfl (z := 0) rfl (k_gR hK (q := 16) (r := 1) dX7_due_13 rfl rf_X7_12 rfl rfl (k_gI hK (q := 19) (z := M 1 5) 0 dX7_due_16 rfl rf_X7_90 rfl rfl rfl rfl ?_)))))
    refine k_iv2I hK (q := 22) dX7_due_19 rfl rm_X7_220 rfl rfl (Nat.le_of_ble_eq_true rfl) (t_dueAt _ M k (M 1 5) (by omega) (by omega)) ?_
    refine k_ir hK dX7_due_22 rfl ?_
    refine ⟨?_, rfl⟩
    unfold aDue
    rw [if_neg (by omega), e5, g29, g30, g31]
  · refine k_bp hK (q := 6)  dX7_due_4 rfl (by decide) ?_
    refine k_ir hK dX7_due_6 rfl ?_
    refine ⟨?_, rfl⟩
    unfold aDue
    rw [if_pos (by omega)]

set_option maxRecDepth 20000 in
set_option maxHeartbeats 2000000 in
theorem xc_of (d t : Nat) (M : ra_M) (S : Sc) (cnt : Int) (hp ht : Int → Int) (ses : Int) (bx du : Int → Int) (al : Al8) (hI : IC S cnt hp ht ses bx du al M) (hw : WF t S cnt hp ht ses bx al) (n w : Int) : Ex (d + 1) m_X7_of [vR 0, vI n, vI w] M (fun r M2 => r = some (vI (aOf S bx du n w)) ∧ M2 = M) := by
  refine Ex_call (Nat.le_of_ble_eq_true rfl) (fun K hK => ?_)
  show K 0 [some (vR 0), some (vI n), some (vI w)] [] M
  have hK : ra_Clo _ m_X7_of cX7_of _ K := hK
  have hI0 := hI
  obtain ⟨hs, ⟨g7, g8, g9⟩, ⟨g29, g30, g31⟩, hN, hF, hA, hL⟩ := hI
  obtain ⟨hS, hc, hnn, hh, hse, hbx, hal⟩ := hw
  obtain ⟨e5, e6, e7, e8, e9⟩ := scC_e hs
  obtain ⟨a2, a3, a4, a5, a6⟩ := scC_a hs
  have hs0 := hS.1
  have hs1 := hS.2.1
  have hs2 := hS.2.2.1
  refine k_aln hK (q := 1)  dX7_of_0 rfl (z := 0) rfl (k_gR hK (q := 4) (r := 1) dX7_of_1 rfl rf_X7_12 rfl rfl (k_iln hK (q := 5)  dX7_of_4 rfl (z := n) rfl ?_))
  refine k_iv1I hK (q := 8) dX7_of_5 rfl rm_X7_101 rfl rfl (Nat.le_of_ble_eq_true rfl) (t_isNote _ M n) ?_
  refine k_ifne hK (q := 11) (t := 14) dX7_of_8 rfl rfl (fun h8 => ?_) (fun h8 => ?_)
  · have h8 := bi_1.mp h8
    refine k_iln hK (q := 15)  dX7_of_14 rfl (z := w) rfl ?_
    refine k_ts hK dX7_of_15 (fun h15 => ⟨84, rfl, ?_⟩) (fun h15 => ?_)
    · refine k_bp hK (q := 86)  dX7_of_84 rfl (by decide) ?_
      refine k_ir hK dX7_of_86 rfl ?_
      refine ⟨?_, rfl⟩
      unfold aOf
      rw [if_neg (by omega), if_neg (by omega), if_neg (by omega), if_neg (by omega), if_neg (by omega)]
    · have h152 : w = 0 ∨ w = 1 ∨ w = 2 ∨ w = 3 := by omega
      rcases h152 with h152 | h152 | h152 | h152
      · refine ⟨29, 44, by rw [h152]; rfl, rfl, ?_⟩
        refine k_aln hK (q := 45)  dX7_of_44 rfl (z := 0) rfl (k_gR hK (q := 48) (r := 1) dX7_of_45 rfl rf_X7_12 rfl rfl (k_gR hK (q := 51) (r := 2) dX7_of_48 rfl rf_X7_223 rfl rfl (k_iln hK (q := 52)  dX7_of_51 rfl (z := n) rfl (k_ald hK (q := 53)  dX7_of_52 rfl (y := M 2 n) rfl (by omega) rfl ?_))))
        refine k_ir hK dX7_of_53 rfl ?_
        refine ⟨?_, rfl⟩
        unfold aOf
        rw [if_neg (by omega), if_pos (by omega), ← a2]
      · refine ⟨39, 54, by rw [h152]; rfl, rfl, ?_⟩
        refine k_aln hK (q := 55)  dX7_of_54 rfl (z := 0) rfl (k_gR hK (q := 58) (r := 1) dX7_of_55 rfl rf_X7_12 rfl rfl (k_gR hK (q := 61) (r := 3) dX7_of_58 rfl rf_X7_226 rfl rfl (k_iln hK (q := 62)  dX7_of_61 rfl (z := n) rfl (k_ald hK (q := 63)  dX7_of_62 rfl (y := M 3 n) rfl (by omega) rfl ?_))))
        refine k_ir hK dX7_of_63 rfl ?_
        refine ⟨?_, rfl⟩
        unfold aOf
        rw [if_neg (by omega), if_neg (by omega), if_pos (by omega), ← a3]
      · refine ⟨49, 64, by rw [h152]; rfl, rfl, ?_⟩
        refine k_aln hK (q := 65)  dX7_of_64 rfl (z := 0) rfl (k_gR hK (q := 68) (r := 29) dX7_of_65 rfl rf_X7_60 rfl rfl (k_gR hK (q := 71) (r := 30) dX7_of_68 rfl rf_X7_229 rfl rfl (k_iln hK (q := 72)  dX7_of_71 rfl (z := n) rfl (k_ald hK (q := 73)  dX7_of_72 rfl (y := M 30 n) rfl (by omega) rfl ?_))))
        refine k_ir hK dX7_of_73 rfl ?_
        refine ⟨?_, rfl⟩
        unfold aOf
        rw [if_neg (by omega), if_neg (by omega), if_neg (by omega), if_pos (by omega), ← g30]
      · refine ⟨59, 74, by rw [h152]; rfl, rfl, ?_⟩
        refine k_aln hK (q := 75)  dX7_of_74 rfl (z := 0) rfl (k_gR hK (q := 78) (r := 29) dX7_of_75 rfl rf_X7_60 rfl rfl (k_gR hK (q := 81) (r := 31) dX7_of_78 rfl rf_X7_232 rfl rfl (k_iln hK (q := 82)  dX7_of_81 rfl (z := n) rfl (k_ald hK (q := 83)  dX7_of_82 rfl (y := M 31 n) rfl (by omega) rfl ?_))))
        refine k_ir hK dX7_of_83 rfl ?_
        refine ⟨?_, rfl⟩
        unfold aOf
        rw [if_neg (by omega), if_neg (by omega), if_neg (by omega), if_neg (by omega), if_pos (by omega), ← g31]
  · have h8 := bi_0.mp h8
    refine k_bp hK (q := 13)  dX7_of_11 rfl (by decide) ?_
    refine k_ir hK dX7_of_13 rfl ?_
    refine ⟨?_, rfl⟩
    unfold aOf
    rw [if_pos (by omega)]

set_option maxRecDepth 20000 in
set_option maxHeartbeats 2000000 in
theorem xc_told (d t : Nat) (M : ra_M) (S : Sc) (cnt : Int) (hp ht : Int → Int) (ses : Int) (bx du : Int → Int) (al : Al8) (hI : IC S cnt hp ht ses bx du al M) (hw : WF t S cnt hp ht ses bx al) (w : Int) : Ex (d + 1) m_X7_told [vR 0, vI w] M (fun r M2 => r = some (vI (aTld S cnt hp ses w)) ∧ M2 = M) := by
  refine Ex_call (Nat.le_of_ble_eq_true rfl) (fun K hK => ?_)
  show K 0 [some (vR 0), some (vI w)] [] M
  have hK : ra_Clo _ m_X7_told cX7_told _ K := hK
  have hI0 := hI
  obtain ⟨hs, ⟨g7, g8, g9⟩, ⟨g29, g30, g31⟩, hN, hF, hA, hL⟩ := hI
  obtain ⟨hS, hc, hnn, hh, hse, hbx, hal⟩ := hw
  obtain ⟨e5, e6, e7, e8, e9⟩ := scC_e hs
  obtain ⟨a2, a3, a4, a5, a6⟩ := scC_a hs
  have hs0 := hS.1
  have hs1 := hS.2.1
  have hs2 := hS.2.2.1
  refine k_iln hK (q := 1)  dX7_told_0 rfl (z := w) rfl ?_
  refine k_ts hK dX7_told_1 (fun h1 => ⟨124, rfl, ?_⟩) (fun h1 => ?_)
  · refine k_bp hK (q := 126)  dX7_told_124 rfl (by decide) ?_
    refine k_ir hK dX7_told_126 rfl ?_
    refine ⟨?_, rfl⟩
    unfold aTld
    rw [if_neg (by omega), if_neg (by omega), if_neg (by omega), if_neg (by omega), if_neg (by omega), if_neg (by omega), if_neg (by omega), if_neg (by omega), if_neg (by omega)]
  · have h12 : w = 0 ∨ w = 1 ∨ w = 2 ∨ w = 3 ∨ w = 4 ∨ w = 5 ∨ w = 6 ∨ w = 7 ∨ w = 8 := by omega
    rcases h12 with h12 | h12 | h12 | h12 | h12 | h12 | h12 | h12 | h12
    · refine ⟨51, 52, by rw [h12]; rfl, rfl, ?_⟩
      refine k_aln hK (q := 53)  dX7_told_52 rfl (z := 0) rfl (k_gR hK (q := 56) (r := 1) dX7_told_53 rfl rf_X7_12 rfl rfl (k_gI hK (q := 59) (z := M 1 5) 0 dX7_told_56 rfl rf_X7_90 rfl rfl rfl rfl ?_))
      refine k_ir hK dX7_told_59 rfl ?_
      refine ⟨?_, rfl⟩
      unfold aTld
      rw [if_pos (by omega)]
      rw [e5]
    · refine ⟨59, 60, by rw [h12]; rfl, rfl, ?_⟩
      refine k_aln hK (q := 61)  dX7_told_60 rfl (z := 0) rfl (k_gR hK (q := 64) (r := 1) dX7_told_61 rfl rf_X7_12 rfl rfl (k_gI hK (q := 67) (z := M 1 6) 0 dX7_told_64 rfl rf_X7_109 rfl rfl rfl rfl ?_))
      refine k_ir hK dX7_told_67 rfl ?_
      refine ⟨?_, rfl⟩
      unfold aTld
      rw [if_neg (by omega), if_pos (by omega), e6]
    · refine ⟨67, 68, by rw [h12]; rfl, rfl, ?_⟩
      refine k_aln hK (q := 69)  dX7_told_68 rfl (z := 0) rfl (k_gR hK (q := 72) (r := 7) dX7_told_69 rfl rf_X7_19 rfl rfl (k_gI hK (q := 75) (z := M 7 2) 0 dX7_told_72 rfl rf_X7_83 rfl rfl rfl rfl ?_))
      refine k_ir hK dX7_told_75 rfl ?_
      refine ⟨?_, rfl⟩
      unfold aTld
      rw [if_neg (by omega), if_neg (by omega), if_pos (by omega), g7]
    · refine ⟨75, 76, by rw [h12]; rfl, rfl, ?_⟩
      refine k_aln hK (q := 77)  dX7_told_76 rfl (z := 0) rfl (k_gR hK (q := 80) (r := 15) dX7_told_77 rfl rf_X7_37 rfl rfl (k_gI hK (q := 83) (z := M 15 5) 0 dX7_told_80 rfl rf_X7_145 rfl rfl rfl rfl ?_))
      refine k_ir hK dX7_told_83 rfl ?_
      refine ⟨?_, rfl⟩
      unfold aTld
      rw [if_neg (by omega), if_neg (by omega), if_neg (by omega), if_pos (by omega), hF.1.2]
    · refine ⟨83, 84, by rw [h12]; rfl, rfl, ?_⟩
      refine k_aln hK (q := 85)  dX7_told_84 rfl (z := 0) rfl (k_gR hK (q := 88) (r := 29) dX7_told_85 rfl rf_X7_60 rfl rfl (k_gI hK (q := 91) (z := M 29 2) 0 dX7_told_88 rfl rf_X7_67 rfl rfl rfl rfl ?_))
      refine k_ir hK dX7_told_91 rfl ?_
      refine ⟨?_, rfl⟩
      unfold aTld
      rw [if_neg (by omega), if_neg (by omega), if_neg (by omega), if_neg (by omega), if_pos (by omega), g29]
    · refine ⟨91, 92, by rw [h12]; rfl, rfl, ?_⟩
      refine k_aln hK (q := 93)  dX7_told_92 rfl (z := 0) rfl (k_gR hK (q := 96) (r := 18) dX7_told_93 rfl rf_X7_46 rfl rfl (k_gI hK (q := 99) (z := M 18 4) 0 dX7_told_96 rfl rf_X7_165 rfl rfl rfl rfl ?_))
      refine k_ir hK dX7_told_99 rfl ?_
      refine ⟨?_, rfl⟩
      unfold aTld
      rw [if_neg (by omega), if_neg (by omega), if_neg (by omega), if_neg (by omega), if_neg (by omega), if_pos (by omega), hA.1]
    · refine ⟨99, 100, by rw [h12]; rfl, rfl, ?_⟩
      refine k_aln hK (q := 101)  dX7_told_100 rfl (z := 0) rfl (k_gR hK (q := 104) (r := 1) dX7_told_101 rfl rf_X7_12 rfl rfl (k_gI hK (q := 107) (z := M 1 7) 0 dX7_told_104 rfl rf_X7_115 rfl rfl rfl rfl ?_))
      refine k_ir hK dX7_told_107 rfl ?_
      refine ⟨?_, rfl⟩
      unfold aTld
      rw [if_neg (by omega), if_neg (by omega), if_neg (by omega), if_neg (by omega), if_neg (by omega), if_neg (by omega), if_pos (by omega), e7]
    · refine ⟨107, 108, by rw [h12]; rfl, rfl, ?_⟩
      refine k_aln hK (q := 109)  dX7_told_108 rfl (z := 0) rfl (k_gR hK (q := 112) (r := 1) dX7_told_109 rfl rf_X7_12 rfl rfl (k_gI hK (q := 115) (z := M 1 8) 0 dX7_told_112 rfl rf_X7_118 rfl rfl rfl rfl ?_))
      refine k_ir hK dX7_told_115 rfl ?_
      refine ⟨?_, rfl⟩
      unfold aTld
      rw [if_neg (by omega), if_neg (by omega), if_neg (by omega), if_neg (by omega), if_neg (by omega), if_neg (by omega), if_neg (by omega), if_pos (by omega), e8]
    · refine ⟨115, 116, by rw [h12]; rfl, rfl, ?_⟩
      refine k_aln hK (q := 117)  dX7_told_116 rfl (z := 0) rfl (k_gR hK (q := 120) (r := 1) dX7_told_117 rfl rf_X7_12 rfl rfl (k_gI hK (q := 123) (z := M 1 9) 0 dX7_told_120 rfl rf_X7_125 rfl rfl rfl rfl ?_))
      refine k_ir hK dX7_told_123 rfl ?_
      refine ⟨?_, rfl⟩
      unfold aTld
      rw [if_neg (by omega), if_neg (by omega), if_neg (by omega), if_neg (by omega), if_neg (by omega), if_neg (by omega), if_neg (by omega), if_neg (by omega), if_pos (by omega), e9]
