/-! THE BEST is walked and found, in the class -/
theorem opt_no {S : Sc} {hp : Int → Int} {R : Int → Int → Int} {e p : Int} (h : rs1 S hp R e p) (h1 : (nx S p).find? (okP S hp R e p) = none) (hx : ¬ S 5 1 + R (e + 1) p = R e p) (h2 : (nx S p).find? (okJ S R e p) = none) (h3 : (List.range (S 0 0).toNat).find? (okH S hp R e p) = none) : False := by
  rcases h.2.2.2.2 with h | ⟨q, hq, h⟩ | ⟨q, hq, h⟩ | ⟨n, hn, h⟩
  · exact hx h.symm
  · have := List.find?_eq_none.mp h1 q hq
    unfold okP at this
    exact this (decide_eq_true h.symm)
  · have := List.find?_eq_none.mp h2 q hq
    unfold okJ at this
    exact this (decide_eq_true h.symm)
  · have := List.find?_eq_none.mp h3 n.toNat (List.mem_range.mpr (by omega))
    unfold okH at this
    apply this
    rw [show ((n.toNat : Nat) : Int) = n by omega]
    exact decide_eq_true ⟨hn, h.symm⟩
theorem WS_fr {S : Sc} {hp : Int → Int} {M M2 : ra_M} {ls : List St4} {e : Int} (h : WS S hp M ls e) (hf : ∀ k, 22 ≤ k → k ≤ 28 → k ≠ 23 → k ≠ 22 → M2 k = M k) (h11 : M2 22 11 = M 22 11) : WS S hp M2 ls e := by
  refine ⟨⟨by rw [h11]; exact h.1.1, fun i s hi => by rw [hf 24 (by omega) (by omega) (by omega) (by omega)]; exact h.1.2 i s hi⟩, fun n a b => ?_, fun ev a b => ?_, h.2.2.2⟩
  · rw [hf 26 (by omega) (by omega) (by omega) (by omega), hf 27 (by omega) (by omega) (by omega) (by omega), hf 28 (by omega) (by omega) (by omega) (by omega)]
    exact h.2.1 n a b
  · rw [hf 25 (by omega) (by omega) (by omega) (by omega)]
    exact h.2.2.1 ev a b

set_option maxRecDepth 20000 in
set_option maxHeartbeats 2000000 in
theorem walk_loop {d : Nat} {Q : Option ra_V → ra_M → Prop} {K : Nat → ra_L → List ra_V → ra_M → Prop} (hK : ra_Clo (Ex (d + 3)) m_X1_walk cX1_walk Q K) {S : Sc} (hS : okSc S) {M0 : ra_M} {cnt : Int} (hcnt : 0 ≤ cnt ∧ cnt ≤ 120) (hR : isR S (M0 8) cnt (T23 M0)) (hrr : ∀ e2 p2, 0 ≤ e2 → e2 ≤ 120 → vp S p2 → e2 ≤ cnt → 0 ≤ M0 23 (e2 * 61 + p2 + 1) ∧ M0 23 (e2 * 61 + p2 + 1) ≤ 200000) {full : List St4}
    (hQ : ∀ M, WS S (M0 8) M full cnt → frW M0 M → Q none M) :
    ∀ (n k : Nat) (M : ra_M) (ls : List St4) (e p : Int), k + n = 7320 → scC M = S → (0 < cnt → NxA M S) → M 7 2 = cnt → frW M0 M → WS S (M0 8) M ls e → ls.length = k → (0 ≤ e ∧ e ≤ cnt) → vp S p → full = ls ++ wk S (M0 8) (T23 M0) cnt n e p → (e < cnt → (k : Int) + mu S (T23 M0) e p ≤ 61 * e + 60) → K 10 [some (vR 22), some (vI p), some (vI e), some (vI (k : Nat)), none] [] M := by
  intro n
  induction n with
  | zero =>
    intro k M ls e p hk hs hA h72 hf hw hlk he hv hfull hmu
    refine k_iln hK (q := 11)  dX1_walk_10 rfl (z := (k : Nat)) rfl (k_sp hK (q := 14)  dX1_walk_11 rfl (by decide) ?_)
    refine k_cge hK (q := 17) (t := 103) dX1_walk_14 rfl rfl (fun h14 => ?_) (fun h14 => ?_)
    · have hk2 : ¬ e < cnt := fun q => by have := hmu q; omega
      refine k_vr hK dX1_walk_103 rfl ?_
      have hee : e = cnt := by omega
      subst hee
      have hfl : full = ls := by
        rw [hfull]
        simp [wk]
      rw [hfl] at hQ
      exact hQ M hw hf
    · exact absurd h14 (by omega)
  | succ n ih =>
    intro k M ls e p hk hs hA h72 hf hw hlk he hv hfull hmu
    have h8 : M 8 = M0 8 := hf.1 8 (by decide)
    have h23 : T23 M = T23 M0 := by unfold T23; rw [hf.1 23 (by decide)]
    have hw9 : WS S (M 8) M ls e := by rw [h8]; exact hw
    refine k_iln hK (q := 11)  dX1_walk_10 rfl (z := (k : Nat)) rfl (k_sp hK (q := 14)  dX1_walk_11 rfl (by decide) ?_)
    refine k_cge hK (q := 17) (t := 103) dX1_walk_14 rfl rfl (fun h14 => ?_) (fun h14 => ?_)
    · exact absurd h14 (by omega)
    · refine k_iln hK (q := 18)  dX1_walk_17 rfl (z := e) rfl (k_aln hK (q := 19)  dX1_walk_18 rfl (z := 22) rfl (k_gR hK (q := 22) (r := 7) dX1_walk_19 rfl rf_X1_38 rfl rfl (k_gI hK (q := 25) (z := M 7 2) 0 dX1_walk_22 rfl rf_X1_48 rfl rfl rfl rfl ?_)))
      refine k_cge hK (q := 28) (t := 103) dX1_walk_25 rfl rfl (fun h25 => ?_) (fun h25 => ?_)
      · refine k_vr hK dX1_walk_103 rfl ?_
        have hee : e = cnt := by omega
        subst hee
        have hfl : full = ls := by
          rw [hfull]
          rw [show wk S (M0 8) (T23 M0) e (n + 1) e p = [] by simp [wk]]; simp
        rw [hfl] at hQ
        exact hQ M hw hf
      · have hrs := hR.2 e (by omega) (by omega) p hv
        have hrr9 : ∀ e2 p2, e ≤ e2 → e2 ≤ e + 1 → vp S p2 → 0 ≤ M 23 (e2 * 61 + p2 + 1) ∧ M 23 (e2 * 61 + p2 + 1) ≤ 200000 := by
          intro e2 p2 a b v2
          rw [hf.1 23 (by decide)]
          exact hrr e2 p2 (by omega) (by omega) v2 (by omega)
        have J77 : ∀ (M5 : ra_M) (s : St4), s = opt S (M0 8) (T23 M0) e p → WS S (M0 8) M5 (ls ++ [s]) (if s.1 = 2 then e else e + 1) → frW M M5 → K 77 [some (vR 22), some (vI p), some (vI e), some (vI (k : Nat)), some (vI 1)] [] M5 := by
          intro M5 s hso hw5 hf5
          have hT := opt_ok hS hv hrs
          rw [← hso] at hT
          have hok := hw5.2.2.2 s (by simp)
          have hpk : M5 24 (k : Nat) = pk (s.1, s.2.1, s.2.2.1, s.2.2.2) := hw5.1.2 k s (by rw [← hlk]; simp)
          have hvs : vp S s.2.1 := by rcases hT with h | h; exact Or.inr h.2.1; exact h.2.1
          have hwk : full = (ls ++ [s]) ++ wk S (M0 8) (T23 M0) cnt n (if s.1 = 2 then e else e + 1) s.2.1 := by
            rw [hfull]
            simp only [wk]
            rw [if_neg (by omega), ← hso, List.append_assoc]
            rfl
          have hs5 : scC M5 = S := by rw [scC_fr (frX_S hf5.1 (by decide))]; exact hs
          have hA5 : 0 < cnt → NxA M5 S := fun q => NxA_fr (hA q) (fun t a b => hf5.1 t (by simp; omega))
          have hk5 := hmu (by omega)
          refine k_aln hK (q := 78)  dX1_walk_77 rfl (z := 22) rfl (k_iln hK (q := 79)  dX1_walk_78 rfl (z := (k : Nat)) rfl (k_ic hK (q := 80)  dX1_walk_79 rfl (by decide) ?_))
          refine k_iv2I hK (q := 83) dX1_walk_80 rfl rm_X1_138 rfl rfl (Nat.le_of_ble_eq_true rfl) ((show Ex _ _ _ _ (fun r M2 => r = some (vI s.2.1) ∧ M2 = M5) from xc_tell _ M5 (k : Nat) 1 s.1 s.2.1 s.2.2.1 s.2.2.2 hok.1 (by omega) hpk)) ?_
          refine k_isn hK (q := 84)  dX1_walk_83 rfl (L2 := [some (vR 22), some (vI s.2.1), some (vI e), some (vI (k : Nat)), some (vI 1)]) (Nat.le_of_ble_eq_true rfl) rfl (k_aln hK (q := 85)  dX1_walk_84 rfl (z := 22) rfl (k_iln hK (q := 86)  dX1_walk_85 rfl (z := (k : Nat)) rfl (k_ic hK (q := 87)  dX1_walk_86 rfl (by decide) ?_)))
          refine k_iv2I hK (q := 90) dX1_walk_87 rfl rm_X1_138 rfl rfl (Nat.le_of_ble_eq_true rfl) ((show Ex _ _ _ _ (fun r M2 => r = some (vI s.1) ∧ M2 = M5) from xc_tell _ M5 (k : Nat) 0 s.1 s.2.1 s.2.2.1 s.2.2.2 hok.1 (by omega) hpk)) ?_
          refine k_ic hK (q := 91)  dX1_walk_90 rfl (by decide) ?_
          refine k_ceq hK (q := 94) (t := 97) dX1_walk_91 rfl rfl (fun h91 => ?_) (fun h91 => ?_)
          · refine k_inc hK (q := 100)  dX1_walk_97 rfl (y := (k : Nat) + 1) (L2 := [some (vR 22), some (vI s.2.1), some (vI e), some (vI ((k : Nat) + 1)), some (vI 1)]) rfl rfl (by omega) rfl (k_goto hK (t := 10) dX1_walk_100 rfl ?_)
            refine k_weak hK (L2 := [some (vR 22), some (vI s.2.1), some (vI e), some (vI ((k : Nat) + 1)), none]) ⟨Or.inl rfl, Or.inl rfl, Or.inl rfl, Or.inl rfl, Or.inr rfl, trivial⟩ ?_
            rw [if_pos h91] at hw5 hwk
            refine ih (k + 1) M5 (ls ++ [s]) e s.2.1 (by omega) hs5 hA5 (by rw [hf5.1 7 (by decide)]; exact h72) (frW_trans hf hf5) hw5 (by simp [hlk]) (by omega) hvs hwk (fun q => ?_)
            rcases hT with h | h
            · have := mu_lt hS h.2.1 h.2.2.2.1
              omega
            · omega
          · refine k_inc hK (q := 97)  dX1_walk_94 rfl (y := e + 1) (L2 := [some (vR 22), some (vI s.2.1), some (vI (e + 1)), some (vI (k : Nat)), some (vI 1)]) rfl rfl (by omega) rfl (k_inc hK (q := 100)  dX1_walk_97 rfl (y := (k : Nat) + 1) (L2 := [some (vR 22), some (vI s.2.1), some (vI (e + 1)), some (vI ((k : Nat) + 1)), some (vI 1)]) rfl rfl (by omega) rfl (k_goto hK (t := 10) dX1_walk_100 rfl ?_))
            refine k_weak hK (L2 := [some (vR 22), some (vI s.2.1), some (vI (e + 1)), some (vI ((k : Nat) + 1)), none]) ⟨Or.inl rfl, Or.inl rfl, Or.inl rfl, Or.inl rfl, Or.inr rfl, trivial⟩ ?_
            rw [if_neg h91] at hw5 hwk
            refine ih (k + 1) M5 (ls ++ [s]) (e + 1) s.2.1 (by omega) hs5 hA5 (by rw [hf5.1 7 (by decide)]; exact h72) (frW_trans hf hf5) hw5 (by simp [hlk]) (by omega) hvs hwk (fun q => ?_)
            have := mu_le S (T23 M0) (e + 1) s.2.1
            omega
        refine k_aln hK (q := 29)  dX1_walk_28 rfl (z := 22) rfl (k_iln hK (q := 30)  dX1_walk_29 rfl (z := e) rfl (k_iln hK (q := 31)  dX1_walk_30 rfl (z := p) rfl ?_))
        refine k_iv2 hK (q := 34) dX1_walk_31 rfl rm_X1_125 rfl rfl (Nat.le_of_ble_eq_true rfl) (xc_plays _ M e p S hs hS (hA (by omega)) ls hw9 (by omega) hv (by omega) hrr9) (fun r9 M9 h9 => ?_)
        rcases h9 with ⟨q, hq1, rfl, hw5, hf5⟩ | ⟨hq1, rfl, hM9⟩
        · rw [h23] at hq1
          rw [h8] at hq1 hw5
          show K 34 [some (vR 22), some (vI p), some (vI e), some (vI (k : Nat)), none] [vI 1] M9
          refine k_ifne hK (q := 37) (t := 64) dX1_walk_34 rfl rfl (fun _ => ?_) (fun h34 => absurd h34 (by decide))
          refine k_ic hK (q := 65)  dX1_walk_64 rfl (by decide) (k_goto hK (t := 69) dX1_walk_65 rfl (k_is hK (q := 71)  dX1_walk_69 rfl (L2 := [some (vR 22), some (vI p), some (vI e), some (vI (k : Nat)), some (vI 1)]) (Nat.le_of_ble_eq_true rfl) rfl (k_il hK (q := 73)  dX1_walk_71 rfl (z := 1) rfl ?_)))
          refine k_ifne hK (q := 76) (t := 77) dX1_walk_73 rfl rfl (fun _ => ?_) (fun h73 => absurd h73 (by decide))
          refine J77 M9 _ ?_ hw5 hf5
          unfold opt
          rw [hq1]
        · rw [hM9]
          rw [h23, h8] at hq1
          show K 34 [some (vR 22), some (vI p), some (vI e), some (vI (k : Nat)), none] [vI 0] M
          refine k_ifne hK (q := 37) (t := 64) dX1_walk_34 rfl rfl (fun h34 => absurd h34 (by decide)) (fun _ => ?_)
          refine k_aln hK (q := 38)  dX1_walk_37 rfl (z := 22) rfl (k_iln hK (q := 39)  dX1_walk_38 rfl (z := e) rfl (k_iln hK (q := 40)  dX1_walk_39 rfl (z := p) rfl ?_))
          refine k_iv2 hK (q := 43) dX1_walk_40 rfl rm_X1_129 rfl rfl (Nat.le_of_ble_eq_true rfl) (xc_stays _ M e p S hs hS (hA (by omega)) ls hw9 (by omega) hv (by omega) hrr9) (fun r9 M9 h9 => ?_)
          rcases h9 with ⟨hx, rfl, hw5, hf5⟩ | ⟨hx, rfl, hM9⟩
          · rw [h23] at hx
            rw [h8] at hw5
            show K 43 [some (vR 22), some (vI p), some (vI e), some (vI (k : Nat)), none] [vI 1] M9
            refine k_ifne hK (q := 46) (t := 64) dX1_walk_43 rfl rfl (fun _ => ?_) (fun h43 => absurd h43 (by decide))
            refine k_ic hK (q := 65)  dX1_walk_64 rfl (by decide) (k_goto hK (t := 69) dX1_walk_65 rfl (k_is hK (q := 71)  dX1_walk_69 rfl (L2 := [some (vR 22), some (vI p), some (vI e), some (vI (k : Nat)), some (vI 1)]) (Nat.le_of_ble_eq_true rfl) rfl (k_il hK (q := 73)  dX1_walk_71 rfl (z := 1) rfl ?_)))
            refine k_ifne hK (q := 76) (t := 77) dX1_walk_73 rfl rfl (fun _ => ?_) (fun h73 => absurd h73 (by decide))
            refine J77 M9 _ ?_ hw5 hf5
            unfold opt
            rw [hq1]
            simp only
            rw [if_pos hx]
          · rw [hM9]
            rw [h23] at hx
            show K 43 [some (vR 22), some (vI p), some (vI e), some (vI (k : Nat)), none] [vI 0] M
            refine k_ifne hK (q := 46) (t := 64) dX1_walk_43 rfl rfl (fun h43 => absurd h43 (by decide)) (fun _ => ?_)
            refine k_aln hK (q := 47)  dX1_walk_46 rfl (z := 22) rfl (k_iln hK (q := 48)  dX1_walk_47 rfl (z := e) rfl (k_iln hK (q := 49)  dX1_walk_48 rfl (z := p) rfl ?_))
            refine k_iv2 hK (q := 52) dX1_walk_49 rfl rm_X1_132 rfl rfl (Nat.le_of_ble_eq_true rfl) (xc_passes _ M e p S hs hS (hA (by omega)) ls hw9 (by omega) hv (by omega) hrr9) (fun r9 M9 h9 => ?_)
            rcases h9 with ⟨q, hq2, rfl, hw5, hf5⟩ | ⟨hq2, rfl, hM9⟩
            · rw [h23] at hq2
              rw [h8] at hw5
              show K 52 [some (vR 22), some (vI p), some (vI e), some (vI (k : Nat)), none] [vI 1] M9
              refine k_ifne hK (q := 55) (t := 64) dX1_walk_52 rfl rfl (fun _ => ?_) (fun h52 => absurd h52 (by decide))
              refine k_ic hK (q := 65)  dX1_walk_64 rfl (by decide) (k_goto hK (t := 69) dX1_walk_65 rfl (k_is hK (q := 71)  dX1_walk_69 rfl (L2 := [some (vR 22), some (vI p), some (vI e), some (vI (k : Nat)), some (vI 1)]) (Nat.le_of_ble_eq_true rfl) rfl (k_il hK (q := 73)  dX1_walk_71 rfl (z := 1) rfl ?_)))
              refine k_ifne hK (q := 76) (t := 77) dX1_walk_73 rfl rfl (fun _ => ?_) (fun h73 => absurd h73 (by decide))
              refine J77 M9 _ ?_ hw5 hf5
              unfold opt
              rw [hq1]
              simp only
              rw [if_neg hx, hq2]
            · rw [hM9]
              rw [h23] at hq2
              show K 52 [some (vR 22), some (vI p), some (vI e), some (vI (k : Nat)), none] [vI 0] M
              refine k_ifne hK (q := 55) (t := 64) dX1_walk_52 rfl rfl (fun h52 => absurd h52 (by decide)) (fun _ => ?_)
              refine k_aln hK (q := 56)  dX1_walk_55 rfl (z := 22) rfl (k_iln hK (q := 57)  dX1_walk_56 rfl (z := e) rfl (k_iln hK (q := 58)  dX1_walk_57 rfl (z := p) rfl ?_))
              refine k_iv2 hK (q := 61) dX1_walk_58 rfl rm_X1_135 rfl rfl (Nat.le_of_ble_eq_true rfl) (xc_leaps _ M e p S hs hS (hA (by omega)) ls hw9 (by omega) hv (by omega) hrr9) (fun r9 M9 h9 => ?_)
              rcases h9 with ⟨q, hq3, rfl, hw5, hf5⟩ | ⟨hq3, rfl, hM9⟩
              · rw [h23] at hq3
                rw [h8] at hq3 hw5
                show K 61 [some (vR 22), some (vI p), some (vI e), some (vI (k : Nat)), none] [vI 1] M9
                refine k_ifeq hK (q := 64) (t := 68) dX1_walk_61 rfl rfl (fun h61 => absurd h61 (by decide)) (fun _ => ?_)
                refine k_ic hK (q := 65)  dX1_walk_64 rfl (by decide) (k_goto hK (t := 69) dX1_walk_65 rfl (k_is hK (q := 71)  dX1_walk_69 rfl (L2 := [some (vR 22), some (vI p), some (vI e), some (vI (k : Nat)), some (vI 1)]) (Nat.le_of_ble_eq_true rfl) rfl (k_il hK (q := 73)  dX1_walk_71 rfl (z := 1) rfl ?_)))
                refine k_ifne hK (q := 76) (t := 77) dX1_walk_73 rfl rfl (fun _ => ?_) (fun h73 => absurd h73 (by decide))
                refine J77 M9 _ ?_ hw5 hf5
                unfold opt
                rw [hq1]
                simp only
                rw [if_neg hx, hq2]
                simp only
                rw [hq3]
              · rw [hM9]
                rw [h23, h8] at hq3
                show K 61 [some (vR 22), some (vI p), some (vI e), some (vI (k : Nat)), none] [vI 0] M
                refine k_ifeq hK (q := 64) (t := 68) dX1_walk_61 rfl rfl (fun _ => ?_) (fun h61 => absurd h61 (by decide))
                exact (opt_no hrs hq1 hx hq2 hq3).elim

set_option maxRecDepth 20000 in
set_option maxHeartbeats 2000000 in
theorem xc_walk (d : Nat) (M : ra_M) (S : Sc) (hs : scC M = S) (hS : okSc S) (cnt : Int) (hcnt : 0 ≤ cnt ∧ cnt ≤ 120) (hnn : 0 < S 0 0) (h72 : M 7 2 = cnt) (hA : 0 < cnt → NxA M S) (hR : isR S (M 8) cnt (T23 M)) (hrr : ∀ e2 p2, 0 ≤ e2 → e2 ≤ 120 → vp S p2 → e2 ≤ cnt → 0 ≤ M 23 (e2 * 61 + p2 + 1) ∧ M 23 (e2 * 61 + p2 + 1) ≤ 200000) : Ex (d + 4) m_X1_walk [vR 22] M (fun r M2 => r = none ∧ WS S (M 8) M2 (wk S (M 8) (T23 M) cnt 7320 0 (-1)) cnt ∧ frW M M2) := by
  refine Ex_call (Nat.le_of_ble_eq_true rfl) (fun K hK => ?_)
  show K 0 [some (vR 22), none, none, none, none] [] M
  have hK : ra_Clo _ m_X1_walk cX1_walk _ K := hK
  refine k_aln hK (q := 1)  dX1_walk_0 rfl (z := 22) rfl ?_
  refine k_iv0 hK (q := 4) dX1_walk_1 rfl rm_X1_122 rfl rfl (Nat.le_of_ble_eq_true rfl) (xc_forgetC _ M) (fun r9 M5 h9 => ?_)
  obtain ⟨rfl, hz5, h115, hf5⟩ := h9
  show K 4 [some (vR 22), none, none, none, none] [] M5
  refine k_ic hK (q := 5)  dX1_walk_4 rfl (by decide) (k_isn hK (q := 6)  dX1_walk_5 rfl (L2 := [some (vR 22), some (vI (-1)), none, none, none]) (Nat.le_of_ble_eq_true rfl) rfl (k_ic hK (q := 7)  dX1_walk_6 rfl (by decide) (k_isn hK (q := 8)  dX1_walk_7 rfl (L2 := [some (vR 22), some (vI (-1)), some (vI 0), none, none]) (Nat.le_of_ble_eq_true rfl) rfl (k_ic hK (q := 9)  dX1_walk_8 rfl (by decide) (k_isn hK (q := 10)  dX1_walk_9 rfl (L2 := [some (vR 22), some (vI (-1)), some (vI 0), some (vI 0), none]) (Nat.le_of_ble_eq_true rfl) rfl ?_)))))
  refine walk_loop hK hS (M0 := M) hcnt hR hrr (fun M2 h1 h2 => ⟨rfl, h1, h2⟩) 7320 0 M5 [] 0 (-1) (by omega) (by rw [scC_fr (frX_S hf5.1 (by decide))]; exact hs) (fun q => NxA_fr (hA q) (fun t a b => hf5.1 t (by simp; omega))) (by rw [hf5.1 7 (by decide)]; exact h72) hf5 ⟨⟨by rw [h115]; rfl, fun i s hi => by simp at hi⟩, fun n a b => ?_, fun ev a b => by omega, fun s hs9 => by cases hs9⟩ rfl (by omega) (Or.inl rfl) rfl (fun q => ?_)
  · have := hz5 n a b
    simp [cPl, cRt, cPs, this]
  · have := mu_le S (T23 M) 0 (-1)
    omega

set_option maxRecDepth 20000 in
set_option maxHeartbeats 2000000 in
theorem find_a {C : Nat → List ra_V → ra_M → (Option ra_V → ra_M → Prop) → Prop} {Q : Option ra_V → ra_M → Prop} {K : Nat → ra_L → List ra_V → ra_M → Prop} (hK : ra_Clo C m_X1_find cX1_find Q K) {S : Sc} (hS : okSc S) {M0 : ra_M} {cnt : Int} (hcnt : 0 ≤ cnt ∧ cnt ≤ 120)
    (hX : ∀ M, (∀ j, pn S j → M 23 (cnt * 61 + j) = 0) → frX [23] M0 M → ∀ z, K 37 [some (vR 22), some (vI z)] [] M) :
    ∀ (n i : Nat) (M : ra_M), i + n = (S 0 0).toNat + 1 → scC M = S → M 7 2 = cnt → (∀ t : Nat, t < i → M 23 (cnt * 61 + (t : Nat)) = 0) → frX [23] M0 M → K 2 [some (vR 22), some (vI (i : Nat))] [] M := by
  have hs0 := hS.1
  intro n
  induction n with
  | zero =>
    intro i M hi hs h72 hc hf
    obtain ⟨e5, e6, e7, e8, e9⟩ := scC_e hs
    refine k_iln hK (q := 3)  dX1_find_2 rfl (z := (i : Nat)) rfl (k_aln hK (q := 4)  dX1_find_3 rfl (z := 22) rfl (k_gR hK (q := 7) (r := 1) dX1_find_4 rfl rf_X1_30 rfl rfl (k_gI hK (q := 10) (z := M 1 5) 0 dX1_find_7 rfl rf_X1_42 rfl rfl rfl rfl ?_)))
    refine k_cgt hK (q := 13) (t := 37) dX1_find_10 rfl rfl (fun h10 => ?_) (fun h10 => ?_)
    · exact hX M (fun j hj => by have := hc j.toNat (by omega); rw [show ((j.toNat : Nat) : Int) = j by omega] at this; exact this) hf _
    · exact absurd h10 (by omega)
  | succ n ih =>
    intro i M hi hs h72 hc hf
    obtain ⟨e5, e6, e7, e8, e9⟩ := scC_e hs
    refine k_iln hK (q := 3)  dX1_find_2 rfl (z := (i : Nat)) rfl (k_aln hK (q := 4)  dX1_find_3 rfl (z := 22) rfl (k_gR hK (q := 7) (r := 1) dX1_find_4 rfl rf_X1_30 rfl rfl (k_gI hK (q := 10) (z := M 1 5) 0 dX1_find_7 rfl rf_X1_42 rfl rfl rfl rfl ?_)))
    refine k_cgt hK (q := 13) (t := 37) dX1_find_10 rfl rfl (fun h10 => ?_) (fun h10 => ?_)
    · exact absurd h10 (by omega)
    · refine k_aln hK (q := 14)  dX1_find_13 rfl (z := 22) rfl (k_gR hK (q := 17) (r := 23) dX1_find_14 rfl rf_X1_9 rfl rfl (k_aln hK (q := 18)  dX1_find_17 rfl (z := 22) rfl (k_gR hK (q := 21) (r := 7) dX1_find_18 rfl rf_X1_38 rfl rfl (k_gI hK (q := 24) (z := M 7 2) 0 dX1_find_21 rfl rf_X1_48 rfl rfl rfl rfl (k_bp hK (q := 26)  dX1_find_24 rfl (by decide) ?_)))))
      refine k_mul hK (q := 27)  dX1_find_26 rfl (z := (M 7 2) * 61) rfl (by omega) (k_iln hK (q := 28)  dX1_find_27 rfl (z := (i : Nat)) rfl (k_add hK (q := 29)  dX1_find_28 rfl (z := ((M 7 2) * 61) + (i : Nat)) rfl (by omega) (k_ic hK (q := 30)  dX1_find_29 rfl (by decide) (k_ast hK (q := 31)  dX1_find_30 rfl rfl (by omega) (k_inc hK (q := 34)  dX1_find_31 rfl (y := (i : Nat) + 1) (L2 := [some (vR 22), some (vI ((i : Nat) + 1))]) rfl rfl (by omega) rfl ?_)))))
      refine k_goto hK (t := 2) dX1_find_34 rfl ?_
      refine ih (i + 1) _ (by omega) (by rw [scC_fr (M := M) (frX_S (l := [23]) (frX_up (frX_refl _ _) _ _ (by decide)) (by decide))]; exact hs) (by rw [up_k _ _ _ (by decide)]; exact h72) (fun t ht => ?_) (frX_up hf _ _ (by decide))
      by_cases h : t = i
      · subst h
        rw [h72, up_same]
      · rw [up_j _ _ (by omega)]
        exact hc t (by omega)

/-- rows behind ev are found -/
def FdR (S : Sc) (hp : Int → Int) (cnt : Int) (M : ra_M) (ev : Int) : Prop := (∀ j, pn S j → M 23 (cnt * 61 + j) = 0) ∧ (∀ e, ev < e → 0 ≤ e → e < cnt → ∀ p, vp S p → rs1 S hp (T23 M) e p) ∧ ∀ e j, ev < e → 0 ≤ e → e ≤ cnt → pn S j → 0 ≤ M 23 (e * 61 + j) ∧ M 23 (e * 61 + j) ≤ 1000 * (cnt - e)
theorem rs1_cong {S : Sc} (hS : okSc S) {hp : Int → Int} {R R2 : Int → Int → Int} {e p : Int} (hv : vp S p) (h0 : ∀ p, vp S p → R2 e p = R e p) (h1 : ∀ p, vp S p → R2 (e + 1) p = R (e + 1) p) (h : rs1 S hp R e p) : rs1 S hp R2 e p := by
  obtain ⟨b1, b2, b3, b4, b5⟩ := h
  refine ⟨by rw [h0 p hv, h1 p hv]; exact b1, fun q hq => by rw [h0 p hv, h1 q.1 (Or.inr (nx_mem hS hq).1)]; exact b2 q hq, fun n hn => by rw [h0 p hv, h1 n (Or.inr hn)]; exact b3 n hn, fun q hq => by rw [h0 p hv, h0 q.1 (Or.inr (nx_mem hS hq).1)]; exact b4 q hq, ?_⟩
  rcases b5 with h | ⟨q, hq, h⟩ | ⟨q, hq, h⟩ | ⟨n, hn, h⟩
  · left; rw [h0 p hv, h1 p hv]; exact h
  · right; left; exact ⟨q, hq, by rw [h0 p hv, h1 q.1 (Or.inr (nx_mem hS hq).1)]; exact h⟩
  · right; right; left; exact ⟨q, hq, by rw [h0 p hv, h0 q.1 (Or.inr (nx_mem hS hq).1)]; exact h⟩
  · right; right; right; exact ⟨n, hn, by rw [h0 p hv, h1 n (Or.inr hn)]; exact h⟩
theorem vp_pn {S : Sc} (hS : okSc S) {p : Int} (h : vp S p) : pn S (p + 1) := by
  have := hS.1
  rcases h with h | h
  · exact ⟨by omega, by omega⟩
  · exact ⟨by omega, by omega⟩
theorem bw_nn {S : Sc} (hS : okSc S) {pit : Int} {r1 : Int → Int} (hr : ∀ j, pn S j → 0 ≤ r1 j) : ∀ j, pn S j → 0 ≤ bw S pit r1 j := by
  intro j hj
  have hc := hS.2.2.2.2.2.2.2.1
  have c1 := hc 1 (by omega) (by omega)
  have c4 := hc 4 (by omega) (by omega)
  have hNV : NV = 1000000000 := rfl
  unfold bw
  rcases bw2_of S pit r1 (El S) (fun j => min (lp S pit r1 (S 0 0).toNat) (S 5 1 + r1 j)) j with h | ⟨f, hf, -, h⟩
  · rw [h]
    have h1 := hr j hj
    rcases lp_of S pit r1 (S 0 0).toNat with h2 | ⟨i, h3, h4, h2⟩
    · omega
    · have h5 := hr ((i : Nat) + 1) ⟨by omega, by omega⟩
      have h6 := wr_in hS (i : Nat) pit
      omega
  · rw [h]
    have h1 := El_mem hS hf
    have h2 := wr_in hS f.2.1 pit
    have h3 := hr _ (El_pn hS f hf).2
    omega
theorem bw_le {S : Sc} {pit : Int} {r1 : Int → Int} (j : Int) : bw S pit r1 j ≤ S 5 1 + r1 j := by
  have := bw2_le S pit r1 (El S) (fun j => min (lp S pit r1 (S 0 0).toNat) (S 5 1 + r1 j)) j
  unfold bw
  omega

theorem FdR_step {S : Sc} (hS : okSc S) (hnn : 0 < S 0 0) {cnt ev : Int} {M M5 M6 : ra_M} (hcnt : 0 ≤ cnt ∧ cnt ≤ 120) (hev : 0 ≤ ev ∧ ev < cnt) (hfd : FdR S (M 8) cnt M ev) (ht5 : ∀ j, pn S j → M5 23 (ev * 61 + j) = bw S (M 8 ev) (r23 M (ev + 1)) j) (ho5 : off3 (ev * 61) M M5) (hr6 : r23 M6 ev = rep ((El S).reverse.map (bk S)) 61 (r23 M5 ev)) (ho6 : off3 (ev * 61) M5 M6) : FdR S (M 8) cnt M6 (ev - 1) := by
  have hs0 := hS.1
  have hc := hS.2.2.2.2.2.2.2.1
  have c1 := hc 1 (by omega) (by omega)
  have hoff : ∀ z, (z < ev * 61 ∨ ev * 61 + 61 ≤ z) → M6 23 z = M 23 z := fun z hz => (ho6 z hz).trans (ho5 z hz)
  have hb : ∀ j, pn S j → r23 M6 ev j = rep ((El S).reverse.map (bk S)) 61 (bw S (M 8 ev) (r23 M (ev + 1))) j := by
    intro j hj
    rw [hr6]
    exact rep_congP (P := pn S) (bk_pn hS) 61 _ _ (fun i hi => ht5 i hi) j hj
  have hr1 : ∀ j, pn S j → 0 ≤ r23 M (ev + 1) j ∧ r23 M (ev + 1) j ≤ 1000 * (cnt - (ev + 1)) := fun j hj => hfd.2.2 (ev + 1) j (by omega) (by omega) (by omega) hj
  have hrow : ∀ j, pn S j → 0 ≤ M6 23 (ev * 61 + j) ∧ M6 23 (ev * 61 + j) ≤ 1000 * (cnt - ev) := by
    intro j hj
    have h1 : M6 23 (ev * 61 + j) = _ := hb j hj
    have h2 := rep_nn (P := pn S) (bk_nn hS) (fun f hf => (bk_pn hS f hf).1) 61 (bw S (M 8 ev) (r23 M (ev + 1))) (bw_nn hS (fun i hi => (hr1 i hi).1)) j hj
    have h3 := rep_le ((El S).reverse.map (bk S)) 61 (bw S (M 8 ev) (r23 M (ev + 1))) j
    have h4 := bw_le (S := S) (pit := M 8 ev) (r1 := r23 M (ev + 1)) j
    have h5 := hr1 j hj
    rw [h1]
    omega
  refine ⟨fun j hj => by rw [hoff _ (by omega)]; exact hfd.1 j hj, fun e h1 h2 h3 p hv => ?_, fun e j h1 h2 h3 hj => ?_⟩
  · by_cases he : e = ev
    · subst he
      refine class_rs1 hS hnn (r1 := r23 M (e + 1)) (fun p hv => ?_) (fun p hv => ?_) (fun p hv => ?_) p hv
      · have := vp_pn hS hv
        unfold T23 r23
        rw [hoff _ (by omega), show (e + 1) * 61 + p + 1 = (e + 1) * 61 + (p + 1) by omega]
      · have := hr1 (p + 1) (vp_pn hS hv)
        omega
      · have := hb (p + 1) (vp_pn hS hv)
        rw [← this]
        unfold T23 r23
        rw [show e * 61 + p + 1 = e * 61 + (p + 1) by omega]
    · refine rs1_cong hS hv (fun p hv => ?_) (fun p hv => ?_) (hfd.2.1 e (by omega) h2 h3 p hv)
      · have := vp_pn hS hv
        unfold T23
        rw [hoff _ (by omega)]
      · have := vp_pn hS hv
        unfold T23
        rw [hoff _ (by omega)]
  · by_cases he : e = ev
    · subst he
      exact hrow j hj
    · rw [hoff _ (by omega)]
      exact hfd.2.2 e j (by omega) h2 h3 hj

set_option maxRecDepth 20000 in
set_option maxHeartbeats 2000000 in
theorem find_b {d : Nat} {Q : Option ra_V → ra_M → Prop} {K : Nat → ra_L → List ra_V → ra_M → Prop} (hK : ra_Clo (Ex (d + 2)) m_X1_find cX1_find Q K) {S : Sc} (hS : okSc S) (hnn : 0 < S 0 0) {M0 : ra_M} {cnt : Int} (hcnt : 0 ≤ cnt ∧ cnt ≤ 120)
    (hX : ∀ M, FdR S (M0 8) cnt M (-1) → frX [23] M0 M → ∀ z, K 67 [some (vR 22), some (vI z)] [] M) :
    ∀ (n : Nat) (M : ra_M) (ev : Int), ev = (n : Int) - 1 ∧ ev < cnt → scC M = S → (0 < cnt → NxA M S) → FdR S (M0 8) cnt M ev → frX [23] M0 M → K 47 [some (vR 22), some (vI ev)] [] M := by
  intro n
  induction n with
  | zero =>
    intro M ev hev hs hA hfd hf
    refine k_iln hK (q := 48)  dX1_find_47 rfl (z := ev) rfl ?_
    refine k_iflt hK (q := 51) (t := 67) dX1_find_48 rfl rfl (fun h48 => ?_) (fun h48 => ?_)
    · exact hX M (by rw [show (-1 : Int) = ev by omega]; exact hfd) hf _
    · exact absurd h48 (by omega)
  | succ n ih =>
    intro M ev hev hs hA hfd hf
    have h8e : M 8 = M0 8 := hf 8 (by decide)
    have k1 := hS.2.2.2.2.2.2.2.1 1 (by omega) (by omega)
    refine k_iln hK (q := 48)  dX1_find_47 rfl (z := ev) rfl ?_
    refine k_iflt hK (q := 51) (t := 67) dX1_find_48 rfl rfl (fun h48 => ?_) (fun h48 => ?_)
    · exact absurd h48 (by omega)
    · refine k_aln hK (q := 52)  dX1_find_51 rfl (z := 22) rfl (k_iln hK (q := 53)  dX1_find_52 rfl (z := ev) rfl ?_)
      refine k_iv1 hK (q := 56) dX1_find_53 rfl rm_X1_53 rfl rfl (Nat.le_of_ble_eq_true rfl) (xc_weighT _ M ev S hs hS (hA (by omega)).1 (by omega) (fun j hj => by have := hfd.2.2 (ev + 1) j (by omega) (by omega) (by omega) hj; omega)) (fun r9 M5 h9 => ?_)
      obtain ⟨rfl, ht5, ho5, hf5⟩ := h9
      have hs5 : scC M5 = S := by rw [scC_fr (frX_S hf5 (by decide))]; exact hs
      have hA5 : NxA M5 S := NxA_fr (hA (by omega)) (fun t a b => hf5 t (by simp; omega))
      show K 56 [some (vR 22), some (vI ev)] [] M5
      refine k_aln hK (q := 57)  dX1_find_56 rfl (z := 22) rfl (k_iln hK (q := 58)  dX1_find_57 rfl (z := ev) rfl ?_)
      refine k_iv1 hK (q := 61) dX1_find_58 rfl rm_X1_57 rfl rfl (Nat.le_of_ble_eq_true rfl) (xc_weighP _ M5 ev S hs5 hS hA5.1 (by omega) (fun j hj => by rw [ht5 j hj]; have h1 := bw_nn hS (pit := M 8 ev) (r1 := r23 M (ev + 1)) (fun i hi => (hfd.2.2 (ev + 1) i (by omega) (by omega) (by omega) hi).1) j hj; have h2 := bw_le (S := S) (pit := M 8 ev) (r1 := r23 M (ev + 1)) j; have h3 := hfd.2.2 (ev + 1) j (by omega) (by omega) (by omega) hj; have h4 : r23 M (ev + 1) j = M 23 ((ev + 1) * 61 + j) := rfl; omega)) (fun r9 M6 h9 => ?_)
      obtain ⟨rfl, hr6, ho6, hf6⟩ := h9
      show K 61 [some (vR 22), some (vI ev)] [] M6
      refine k_inc hK (q := 64)  dX1_find_61 rfl (y := ev + (-1)) (L2 := [some (vR 22), some (vI (ev + (-1)))]) rfl rfl (by omega) rfl (k_goto hK (t := 47) dX1_find_64 rfl ?_)
      have h8 : M 8 = M0 8 := hf 8 (by decide)
      rw [← h8] at hfd
      have hfd6 := FdR_step hS hnn hcnt (by omega) hfd ht5 ho5 hr6 ho6
      rw [h8] at hfd6
      exact ih M6 (ev + (-1)) (by omega) (by rw [scC_fr (frX_S hf6 (by decide))]; exact hs5) (fun _ => NxA_fr hA5 (fun t a b => hf6 t (by simp; omega))) hfd6 (frX_trans hf (frX_trans hf5 hf6))

set_option maxRecDepth 20000 in
set_option maxHeartbeats 2000000 in
theorem xc_find (d : Nat) (M : ra_M) (S : Sc) (hs : scC M = S) (hS : okSc S) (cnt : Int) (hcnt : 0 ≤ cnt ∧ cnt ≤ 120) (hnn : 0 < S 0 0) (h72 : M 7 2 = cnt) (hA : 0 < cnt → NxA M S) : Ex (d + 5) m_X1_find [vR 22] M (fun r M2 => r = none ∧ M2 22 9 = 1 ∧ M2 22 10 = T23 M2 0 (-1) ∧ isR S (M 8) cnt (T23 M2) ∧ WS S (M 8) M2 (wk S (M 8) (T23 M2) cnt 7320 0 (-1)) cnt ∧ frX [22, 23, 24, 25, 26, 27, 28] M M2) := by
  refine Ex_call (Nat.le_of_ble_eq_true rfl) (fun K hK => ?_)
  show K 0 [some (vR 22), none] [] M
  have hK : ra_Clo _ m_X1_find cX1_find _ K := hK
  have hs0 := hS.1
  have J67 : ∀ M1, FdR S (M 8) cnt M1 (-1) → frX [23] M M1 → ∀ z, K 67 [some (vR 22), some (vI z)] [] M1 := by
    intro M1 hfd hf1 z
    have hs1 : scC M1 = S := by rw [scC_fr (frX_S hf1 (by decide))]; exact hs
    refine k_aln hK (q := 68)  dX1_find_67 rfl (z := 22) rfl (k_aln hK (q := 69)  dX1_find_68 rfl (z := 22) rfl (k_ic hK (q := 70)  dX1_find_69 rfl (by decide) (k_ic hK (q := 71)  dX1_find_70 rfl (by decide) ?_)))
    refine k_iv2I hK (q := 74) dX1_find_71 rfl rm_X1_60 rfl rfl (Nat.le_of_ble_eq_true rfl) (xc_restAt _ M1 0 (-1) (by omega) (by omega)) ?_
    refine k_pI hK (q := 77) (M2 := up M1 22 10 (M1 23 (0 * 61 + (-1) + 1))) dX1_find_74 rfl rp_X1_64 rfl rfl rfl ?_
    have hT1 : T23 (up M1 22 10 (M1 23 (0 * 61 + (-1) + 1))) = T23 M1 := by unfold T23; rw [up_k _ _ _ (by decide)]
    have h81 : up M1 22 10 (M1 23 (0 * 61 + (-1) + 1)) 8 = M 8 := by rw [up_k _ _ _ (by decide)]; exact hf1 8 (by decide)
    have hR1 : isR S (up M1 22 10 (M1 23 (0 * 61 + (-1) + 1)) 8) cnt (T23 (up M1 22 10 (M1 23 (0 * 61 + (-1) + 1)))) := by
      rw [hT1, h81]
      refine ⟨fun p hv => ?_, fun e a b p hv => hfd.2.1 e (by omega) a b p hv⟩
      have := hfd.1 (p + 1) (vp_pn hS hv)
      unfold T23
      rw [show cnt * 61 + p + 1 = cnt * 61 + (p + 1) by omega]
      exact this
    have hrr1 : ∀ e2 p2, 0 ≤ e2 → e2 ≤ 120 → vp S p2 → e2 ≤ cnt → 0 ≤ up M1 22 10 (M1 23 (0 * 61 + (-1) + 1)) 23 (e2 * 61 + p2 + 1) ∧ up M1 22 10 (M1 23 (0 * 61 + (-1) + 1)) 23 (e2 * 61 + p2 + 1) ≤ 200000 := by
      intro e2 p2 a b v2 c
      rw [up_k _ _ _ (by decide), show e2 * 61 + p2 + 1 = e2 * 61 + (p2 + 1) by omega]
      have := hfd.2.2 e2 (p2 + 1) (by omega) a c (vp_pn hS v2)
      omega
    refine k_aln hK (q := 78)  dX1_find_77 rfl (z := 22) rfl ?_
    refine k_iv0 hK (q := 81) dX1_find_78 rfl rm_X1_67 rfl rfl (Nat.le_of_ble_eq_true rfl) (xc_walk _ (up M1 22 10 (M1 23 (0 * 61 + (-1) + 1))) S (by rw [scC_fr (M := M1) (frX_S (l := [22]) (frX_up (frX_refl _ _) _ _ (by decide)) (by decide))]; exact hs1) hS cnt hcnt hnn (by simp [up]; rw [hf1 7 (by decide)]; exact h72) (fun q => NxA_fr (hA q) (fun t a b => by rw [up_k _ _ _ (by omega)]; exact hf1 t (by simp; omega))) hR1 hrr1) (fun r9 M5 h9 => ?_)
    obtain ⟨rfl, hw5, hf5⟩ := h9
    show K 81 [some (vR 22), some (vI z)] [] M5
    refine k_aln hK (q := 82)  dX1_find_81 rfl (z := 22) rfl (k_ic hK (q := 83)  dX1_find_82 rfl (by decide) (k_pZ hK (q := 86) (M2 := up M5 22 9 1) dX1_find_83 rfl rp_X1_70 rfl rfl (by decide) rfl ?_))
    refine k_vr hK dX1_find_86 rfl ?_
    have h523 : T23 (up M5 22 9 1) = T23 M1 := by unfold T23; rw [up_k _ _ _ (by decide), hf5.1 23 (by decide), up_k _ _ _ (by decide)]
    refine ⟨rfl, by simp [up], ?_, ?_, ?_, ?_⟩
    · rw [h523, up_j _ _ (by decide), hf5.2 10 (by decide), up_same]
      rfl
    · rw [h523]
      rw [hT1, h81] at hR1
      exact hR1
    · rw [h523]
      rw [hT1, h81] at hw5
      exact WS_fr hw5 (fun k a b c e => up_k _ _ _ (by omega)) (by rw [up_j _ _ (by decide)])
    · exact frX_up (frX_trans (frX_up (frX_sub hf1 (by decide)) _ _ (by decide)) (frX_sub hf5.1 (by decide))) _ _ (by decide)
  have J37 : ∀ M1, (∀ j, pn S j → M1 23 (cnt * 61 + j) = 0) → frX [23] M M1 → ∀ z, K 37 [some (vR 22), some (vI z)] [] M1 := by
    intro M1 hz hf1 z
    have hs1 : scC M1 = S := by rw [scC_fr (frX_S hf1 (by decide))]; exact hs
    refine k_aln hK (q := 38)  dX1_find_37 rfl (z := 22) rfl (k_gR hK (q := 41) (r := 7) dX1_find_38 rfl rf_X1_38 rfl rfl (k_gI hK (q := 44) (z := M1 7 2) 0 dX1_find_41 rfl rf_X1_48 rfl rfl rfl rfl (k_ic hK (q := 45)  dX1_find_44 rfl (by decide) (k_sub hK (q := 46)  dX1_find_45 rfl (z := (M1 7 2) - 1) rfl (by rw [hf1 7 (by decide)]; omega) ?_))))
    rw [show M1 7 2 - 1 = cnt - 1 by rw [hf1 7 (by decide), h72]]
    refine k_isn hK (q := 47)  dX1_find_46 rfl (L2 := [some (vR 22), some (vI (cnt - 1))]) (Nat.le_of_ble_eq_true rfl) rfl ?_
    exact find_b hK hS hnn (M0 := M) hcnt J67 cnt.toNat M1 (cnt - 1) (by omega) hs1 (fun q => NxA_fr (hA q) (fun t a b => hf1 t (by simp; omega))) ⟨hz, fun e a b c => by omega, fun e j a b c hj => by have h6 : e = cnt := (by omega); subst h6; rw [hz j hj]; omega⟩ hf1
  refine k_ic hK (q := 1)  dX1_find_0 rfl (by decide) (k_isn hK (q := 2)  dX1_find_1 rfl (L2 := [some (vR 22), some (vI 0)]) (Nat.le_of_ble_eq_true rfl) rfl ?_)
  exact find_a hK hS hcnt J37 ((S 0 0).toNat + 1) 0 M (by omega) hs h72 (fun t ht => by omega) (frX_refl _ _)
