/-! small methods -/
def bi (p : Prop) [Decidable p] : Int := if p then 1 else 0
theorem bi_0 {p : Prop} [Decidable p] : bi p = 0 ↔ ¬ p := by unfold bi; split <;> simp_all
theorem bi_1 {p : Prop} [Decidable p] : ¬ bi p = 0 ↔ p := by unfold bi; split <;> simp_all
theorem bi_p {p : Prop} [Decidable p] (h : p) : bi p = 1 := by simp [bi, h]
theorem bi_n {p : Prop} [Decidable p] (h : ¬ p) : bi p = 0 := by simp [bi, h]
theorem bi_in {p : Prop} [Decidable p] : bi p = 0 ∨ bi p = 1 := by unfold bi; split <;> simp
theorem ri1 {p : Prop} [Decidable p] (h : p) : some (vI 1) = some (vI (bi p)) := by rw [bi_p h]
theorem ri0 {p : Prop} [Decidable p] (h : ¬ p) : some (vI 0) = some (vI (bi p)) := by rw [bi_n h]

set_option maxRecDepth 20000 in
set_option maxHeartbeats 2000000 in
theorem t_min (d : Nat) (M : ra_M) (x y : Int) : Ex d m_J9_min_7cf53 [vI x, vI y] M (fun r M2 => r = some (vI (min x y)) ∧ M2 = M) := by
  refine Ex_leaf (Nat.le_of_ble_eq_true rfl) (fun C K hK => ?_)
  show K 0 [some (vI x), some (vI y)] [] M
  have hK : ra_Clo _ m_J9_min_7cf53 cJ9_min_7cf53 _ K := hK
  refine k_iln hK (q := 1)  dJ9_min_7cf53_0 rfl (z := x) rfl (k_iln hK (q := 2)  dJ9_min_7cf53_1 rfl (z := y) rfl ?_)
  refine k_cgt hK (q := 5) (t := 9) dJ9_min_7cf53_2 rfl rfl (fun h2 => ?_) (fun h2 => ?_)
  · refine k_iln hK (q := 10)  dJ9_min_7cf53_9 rfl (z := y) rfl ?_
    refine k_ir hK dJ9_min_7cf53_10 rfl ?_
    exact ⟨by rw [show min x y = y by omega], rfl⟩
  · refine k_iln hK (q := 6)  dJ9_min_7cf53_5 rfl (z := x) rfl (k_goto hK (t := 10) dJ9_min_7cf53_6 rfl ?_)
    refine k_ir hK dJ9_min_7cf53_10 rfl ?_
    exact ⟨by rw [show min x y = x by omega], rfl⟩

set_option maxRecDepth 20000 in
set_option maxHeartbeats 2000000 in
theorem t_max (d : Nat) (M : ra_M) (x y : Int) : Ex d m_J9_max_7cf53 [vI x, vI y] M (fun r M2 => r = some (vI (max x y)) ∧ M2 = M) := by
  refine Ex_leaf (Nat.le_of_ble_eq_true rfl) (fun C K hK => ?_)
  show K 0 [some (vI x), some (vI y)] [] M
  have hK : ra_Clo _ m_J9_max_7cf53 cJ9_max_7cf53 _ K := hK
  refine k_iln hK (q := 1)  dJ9_max_7cf53_0 rfl (z := x) rfl (k_iln hK (q := 2)  dJ9_max_7cf53_1 rfl (z := y) rfl ?_)
  refine k_clt hK (q := 5) (t := 9) dJ9_max_7cf53_2 rfl rfl (fun h2 => ?_) (fun h2 => ?_)
  · refine k_iln hK (q := 10)  dJ9_max_7cf53_9 rfl (z := y) rfl ?_
    refine k_ir hK dJ9_max_7cf53_10 rfl ?_
    exact ⟨by rw [show max x y = y by omega], rfl⟩
  · refine k_iln hK (q := 6)  dJ9_max_7cf53_5 rfl (z := x) rfl (k_goto hK (t := 10) dJ9_max_7cf53_6 rfl ?_)
    refine k_ir hK dJ9_max_7cf53_10 rfl ?_
    exact ⟨by rw [show max x y = x by omega], rfl⟩

set_option maxRecDepth 20000 in
set_option maxHeartbeats 2000000 in
theorem t_abs (d : Nat) (M : ra_M) (x : Int) (h1 : -2147483647 ≤ x ∧ x ≤ 2147483647) : Ex d m_J9_abs_0f7a4 [vI x] M (fun r M2 => r = some (vI (if 0 ≤ x then x else -x)) ∧ M2 = M) := by
  refine Ex_leaf (Nat.le_of_ble_eq_true rfl) (fun C K hK => ?_)
  show K 0 [some (vI x)] [] M
  have hK : ra_Clo _ m_J9_abs_0f7a4 cJ9_abs_0f7a4 _ K := hK
  refine k_iln hK (q := 1)  dJ9_abs_0f7a4_0 rfl (z := x) rfl ?_
  refine k_ifge hK (q := 4) (t := 9) dJ9_abs_0f7a4_1 rfl rfl (fun h1 => ?_) (fun h1 => ?_)
  · refine k_iln hK (q := 10)  dJ9_abs_0f7a4_9 rfl (z := x) rfl ?_
    refine k_ir hK dJ9_abs_0f7a4_10 rfl ?_
    exact ⟨by congr 2; split <;> omega, rfl⟩
  · refine k_iln hK (q := 5)  dJ9_abs_0f7a4_4 rfl (z := x) rfl (k_neg hK (q := 6)  dJ9_abs_0f7a4_5 rfl (z := -x) rfl (by omega) (k_goto hK (t := 10) dJ9_abs_0f7a4_6 rfl ?_))
    refine k_ir hK dJ9_abs_0f7a4_10 rfl ?_
    exact ⟨by congr 2; split <;> omega, rfl⟩

set_option maxRecDepth 20000 in
set_option maxHeartbeats 2000000 in
theorem t_isWithin (d : Nat) (M : ra_M) (v lo hi : Int) : Ex d m_X7_isWithin [vI v, vI lo, vI hi] M (fun r M2 => r = some (vI (bi (lo ≤ v ∧ v ≤ hi))) ∧ M2 = M) := by
  refine Ex_leaf (Nat.le_of_ble_eq_true rfl) (fun C K hK => ?_)
  show K 0 [some (vI v), some (vI lo), some (vI hi)] [] M
  have hK : ra_Clo _ m_X7_isWithin cX7_isWithin _ K := hK
  refine k_iln hK (q := 1)  dX7_isWithin_0 rfl (z := v) rfl (k_iln hK (q := 2)  dX7_isWithin_1 rfl (z := lo) rfl ?_)
  refine k_clt hK (q := 5) (t := 14) dX7_isWithin_2 rfl rfl (fun h2 => ?_) (fun h2 => ?_)
  · refine k_ic hK (q := 15)  dX7_isWithin_14 rfl (by decide) ?_
    refine k_irz hK dX7_isWithin_15 rfl (by decide) ?_
    exact ⟨ri0 (by omega), rfl⟩
  · refine k_iln hK (q := 6)  dX7_isWithin_5 rfl (z := v) rfl (k_iln hK (q := 7)  dX7_isWithin_6 rfl (z := hi) rfl ?_)
    refine k_cgt hK (q := 10) (t := 14) dX7_isWithin_7 rfl rfl (fun h7 => ?_) (fun h7 => ?_)
    · refine k_ic hK (q := 15)  dX7_isWithin_14 rfl (by decide) ?_
      refine k_irz hK dX7_isWithin_15 rfl (by decide) ?_
      exact ⟨ri0 (by omega), rfl⟩
    · refine k_ic hK (q := 11)  dX7_isWithin_10 rfl (by decide) (k_goto hK (t := 15) dX7_isWithin_11 rfl ?_)
      refine k_irz hK dX7_isWithin_15 rfl (by decide) ?_
      exact ⟨ri1 (by omega), rfl⟩

set_option maxRecDepth 20000 in
set_option maxHeartbeats 2000000 in
theorem t_isNote (d : Nat) (M : ra_M) (n : Int) : Ex d m_X6_isNote [vR 1, vI n] M (fun r M2 => r = some (vI (bi (0 ≤ n ∧ n < M 1 5))) ∧ M2 = M) := by
  refine Ex_leaf (Nat.le_of_ble_eq_true rfl) (fun C K hK => ?_)
  show K 0 [some (vR 1), some (vI n)] [] M
  have hK : ra_Clo _ m_X6_isNote cX6_isNote _ K := hK
  refine k_iln hK (q := 1)  dX6_isNote_0 rfl (z := n) rfl ?_
  refine k_iflt hK (q := 4) (t := 16) dX6_isNote_1 rfl rfl (fun h1 => ?_) (fun h1 => ?_)
  · refine k_ic hK (q := 17)  dX6_isNote_16 rfl (by decide) ?_
    refine k_irz hK dX6_isNote_17 rfl (by decide) ?_
    exact ⟨ri0 (by omega), rfl⟩
  · refine k_iln hK (q := 5)  dX6_isNote_4 rfl (z := n) rfl (k_aln hK (q := 6)  dX6_isNote_5 rfl (z := 1) rfl (k_gI hK (q := 9) (z := M 1 5) 0 dX6_isNote_6 rfl rf_X6_33 rfl rfl rfl rfl ?_))
    refine k_cge hK (q := 12) (t := 16) dX6_isNote_9 rfl rfl (fun h9 => ?_) (fun h9 => ?_)
    · refine k_ic hK (q := 17)  dX6_isNote_16 rfl (by decide) ?_
      refine k_irz hK dX6_isNote_17 rfl (by decide) ?_
      exact ⟨ri0 (by omega), rfl⟩
    · refine k_ic hK (q := 13)  dX6_isNote_12 rfl (by decide) (k_goto hK (t := 17) dX6_isNote_13 rfl ?_)
      refine k_irz hK dX6_isNote_17 rfl (by decide) ?_
      exact ⟨ri1 (by omega), rfl⟩

set_option maxRecDepth 20000 in
set_option maxHeartbeats 2000000 in
theorem t_hasLoop (d : Nat) (M : ra_M) : Ex d m_X6_hasLoop [vR 1] M (fun r M2 => r = some (vI (bi (M 1 7 ≠ -1))) ∧ M2 = M) := by
  refine Ex_leaf (Nat.le_of_ble_eq_true rfl) (fun C K hK => ?_)
  show K 0 [some (vR 1)] [] M
  have hK : ra_Clo _ m_X6_hasLoop cX6_hasLoop _ K := hK
  refine k_aln hK (q := 1)  dX6_hasLoop_0 rfl (z := 1) rfl (k_gI hK (q := 4) (z := M 1 7) 0 dX6_hasLoop_1 rfl rf_X6_40 rfl rfl rfl rfl (k_ic hK (q := 5)  dX6_hasLoop_4 rfl (by decide) ?_))
  refine k_ceq hK (q := 8) (t := 12) dX6_hasLoop_5 rfl rfl (fun h5 => ?_) (fun h5 => ?_)
  · refine k_ic hK (q := 13)  dX6_hasLoop_12 rfl (by decide) ?_
    refine k_irz hK dX6_hasLoop_13 rfl (by decide) ?_
    exact ⟨ri0 (by omega), rfl⟩
  · refine k_ic hK (q := 9)  dX6_hasLoop_8 rfl (by decide) (k_goto hK (t := 13) dX6_hasLoop_9 rfl ?_)
    refine k_irz hK dX6_hasLoop_13 rfl (by decide) ?_
    exact ⟨ri1 (by omega), rfl⟩

set_option maxRecDepth 20000 in
set_option maxHeartbeats 2000000 in
theorem t_lastStart (d : Nat) (M : ra_M) (h1 : 0 ≤ M 1 5 ∧ M 1 5 ≤ 60) : Ex d m_X6_lastStart [vR 1] M (fun r M2 => r = some (vI (if M 1 5 = 0 then -1 else M 3 (M 1 5 - 1))) ∧ M2 = M) := by
  refine Ex_leaf (Nat.le_of_ble_eq_true rfl) (fun C K hK => ?_)
  show K 0 [some (vR 1)] [] M
  have hK : ra_Clo _ m_X6_lastStart cX6_lastStart _ K := hK
  refine k_aln hK (q := 1)  dX6_lastStart_0 rfl (z := 1) rfl (k_gI hK (q := 4) (z := M 1 5) 0 dX6_lastStart_1 rfl rf_X6_33 rfl rfl rfl rfl ?_)
  refine k_ifne hK (q := 7) (t := 11) dX6_lastStart_4 rfl rfl (fun h4 => ?_) (fun h4 => ?_)
  · refine k_aln hK (q := 12)  dX6_lastStart_11 rfl (z := 1) rfl (k_gR hK (q := 15) (r := 3) dX6_lastStart_12 rfl rf_X6_15 rfl rfl (k_aln hK (q := 16)  dX6_lastStart_15 rfl (z := 1) rfl (k_gI hK (q := 19) (z := M 1 5) 0 dX6_lastStart_16 rfl rf_X6_33 rfl rfl rfl rfl (k_ic hK (q := 20)  dX6_lastStart_19 rfl (by decide) (k_sub hK (q := 21)  dX6_lastStart_20 rfl (z := (M 1 5) - 1) rfl (by omega) ?_)))))
    refine k_ald hK (q := 22)  dX6_lastStart_21 rfl (y := M 3 ((M 1 5) - 1)) rfl (by omega) rfl ?_
    refine k_ir hK dX6_lastStart_22 rfl ?_
    exact ⟨by congr 2; split <;> first | rfl | omega, rfl⟩
  · refine k_ic hK (q := 8)  dX6_lastStart_7 rfl (by decide) (k_goto hK (t := 22) dX6_lastStart_8 rfl ?_)
    refine k_ir hK dX6_lastStart_22 rfl ?_
    exact ⟨by congr 2; split <;> first | rfl | omega, rfl⟩

set_option maxRecDepth 20000 in
set_option maxHeartbeats 2000000 in
theorem t_firstThere (d : Nat) (M : ra_M) : Ex (d + 1) m_X6_firstThere [vR 1] M (fun r M2 => r = some (vI (if M 1 7 ≠ -1 then M 1 7 else 0)) ∧ M2 = M) := by
  refine Ex_call (Nat.le_of_ble_eq_true rfl) (fun K hK => ?_)
  show K 0 [some (vR 1)] [] M
  have hK : ra_Clo _ m_X6_firstThere cX6_firstThere _ K := hK
  refine k_aln hK (q := 1)  dX6_firstThere_0 rfl (z := 1) rfl ?_
  refine k_iv0I hK (q := 4) dX6_firstThere_1 rfl rm_X6_49 rfl rfl (Nat.le_of_ble_eq_true rfl) (t_hasLoop _ M) ?_
  refine k_ifeq hK (q := 7) (t := 14) dX6_firstThere_4 rfl rfl (fun h4 => ?_) (fun h4 => ?_)
  · have h4 := bi_0.mp h4
    refine k_ic hK (q := 15)  dX6_firstThere_14 rfl (by decide) ?_
    refine k_ir hK dX6_firstThere_15 rfl ?_
    exact ⟨by congr 2; split <;> first | rfl | omega, rfl⟩
  · have h4 := bi_1.mp h4
    refine k_aln hK (q := 8)  dX6_firstThere_7 rfl (z := 1) rfl (k_gI hK (q := 11) (z := M 1 7) 0 dX6_firstThere_8 rfl rf_X6_40 rfl rfl rfl rfl (k_goto hK (t := 15) dX6_firstThere_11 rfl ?_))
    refine k_ir hK dX6_firstThere_15 rfl ?_
    exact ⟨by congr 2; split <;> first | rfl | omega, rfl⟩

set_option maxRecDepth 20000 in
set_option maxHeartbeats 2000000 in
theorem t_lastThere (d : Nat) (M : ra_M) (h1 : 0 ≤ M 1 5 ∧ M 1 5 ≤ 60) : Ex (d + 1) m_X6_lastThere [vR 1] M (fun r M2 => r = some (vI (if M 1 7 ≠ -1 then M 1 8 else M 1 5 - 1)) ∧ M2 = M) := by
  refine Ex_call (Nat.le_of_ble_eq_true rfl) (fun K hK => ?_)
  show K 0 [some (vR 1)] [] M
  have hK : ra_Clo _ m_X6_lastThere cX6_lastThere _ K := hK
  refine k_aln hK (q := 1)  dX6_lastThere_0 rfl (z := 1) rfl ?_
  refine k_iv0I hK (q := 4) dX6_lastThere_1 rfl rm_X6_49 rfl rfl (Nat.le_of_ble_eq_true rfl) (t_hasLoop _ M) ?_
  refine k_ifeq hK (q := 7) (t := 14) dX6_lastThere_4 rfl rfl (fun h4 => ?_) (fun h4 => ?_)
  · have h4 := bi_0.mp h4
    refine k_aln hK (q := 15)  dX6_lastThere_14 rfl (z := 1) rfl (k_gI hK (q := 18) (z := M 1 5) 0 dX6_lastThere_15 rfl rf_X6_33 rfl rfl rfl rfl (k_ic hK (q := 19)  dX6_lastThere_18 rfl (by decide) (k_sub hK (q := 20)  dX6_lastThere_19 rfl (z := (M 1 5) - 1) rfl (by omega) ?_)))
    refine k_ir hK dX6_lastThere_20 rfl ?_
    exact ⟨by congr 2; split <;> first | rfl | omega, rfl⟩
  · have h4 := bi_1.mp h4
    refine k_aln hK (q := 8)  dX6_lastThere_7 rfl (z := 1) rfl (k_gI hK (q := 11) (z := M 1 8) 0 dX6_lastThere_8 rfl rf_X6_43 rfl rfl rfl rfl (k_goto hK (t := 20) dX6_lastThere_11 rfl ?_))
    refine k_ir hK dX6_lastThere_20 rfl ?_
    exact ⟨by congr 2; split <;> first | rfl | omega, rfl⟩

set_option maxRecDepth 20000 in
set_option maxHeartbeats 2000000 in
theorem t_isThereC (d : Nat) (M : ra_M) (n : Int) (h1 : 0 ≤ M 1 5 ∧ M 1 5 ≤ 60) : Ex (d + 2) m_X6_isThere [vR 1, vI n] M (fun r M2 => r = some (vI (bi ((if M 1 7 ≠ -1 then M 1 7 else 0) ≤ n ∧ n ≤ (if M 1 7 ≠ -1 then M 1 8 else M 1 5 - 1)))) ∧ M2 = M) := by
  refine Ex_call (Nat.le_of_ble_eq_true rfl) (fun K hK => ?_)
  show K 0 [some (vR 1), some (vI n)] [] M
  have hK : ra_Clo _ m_X6_isThere cX6_isThere _ K := hK
  refine k_iln hK (q := 1)  dX6_isThere_0 rfl (z := n) rfl (k_aln hK (q := 2)  dX6_isThere_1 rfl (z := 1) rfl ?_)
  refine k_iv0I hK (q := 5) dX6_isThere_2 rfl rm_X6_53 rfl rfl (Nat.le_of_ble_eq_true rfl) (t_firstThere _ M) ?_
  refine k_clt hK (q := 8) (t := 20) dX6_isThere_5 rfl rfl (fun h5 => ?_) (fun h5 => ?_)
  · refine k_ic hK (q := 21)  dX6_isThere_20 rfl (by decide) ?_
    refine k_irz hK dX6_isThere_21 rfl (by decide) ?_
    exact ⟨ri0 (by omega), rfl⟩
  · refine k_iln hK (q := 9)  dX6_isThere_8 rfl (z := n) rfl (k_aln hK (q := 10)  dX6_isThere_9 rfl (z := 1) rfl ?_)
    refine k_iv0I hK (q := 13) dX6_isThere_10 rfl rm_X6_57 rfl rfl (Nat.le_of_ble_eq_true rfl) (t_lastThere _ M h1) ?_
    refine k_cgt hK (q := 16) (t := 20) dX6_isThere_13 rfl rfl (fun h13 => ?_) (fun h13 => ?_)
    · refine k_ic hK (q := 21)  dX6_isThere_20 rfl (by decide) ?_
      refine k_irz hK dX6_isThere_21 rfl (by decide) ?_
      exact ⟨ri0 (by omega), rfl⟩
    · refine k_ic hK (q := 17)  dX6_isThere_16 rfl (by decide) (k_goto hK (t := 21) dX6_isThere_17 rfl ?_)
      refine k_irz hK dX6_isThere_21 rfl (by decide) ?_
      exact ⟨ri1 (by omega), rfl⟩

set_option maxRecDepth 20000 in
set_option maxHeartbeats 2000000 in
theorem t_mistake (d : Nat) (M : ra_M) (n p : Int) (h1 : 0 ≤ n ∧ n < 60) : Ex d m_X6_mistake [vR 1, vI n, vI p] M (fun r M2 => r = some (vI (if M 2 n = p then 0 else M 6 0)) ∧ M2 = M) := by
  refine Ex_leaf (Nat.le_of_ble_eq_true rfl) (fun C K hK => ?_)
  show K 0 [some (vR 1), some (vI n), some (vI p)] [] M
  have hK : ra_Clo _ m_X6_mistake cX6_mistake _ K := hK
  refine k_aln hK (q := 1)  dX6_mistake_0 rfl (z := 1) rfl (k_gR hK (q := 4) (r := 2) dX6_mistake_1 rfl rf_X6_9 rfl rfl (k_iln hK (q := 5)  dX6_mistake_4 rfl (z := n) rfl (k_ald hK (q := 6)  dX6_mistake_5 rfl (y := M 2 n) rfl (by omega) rfl (k_iln hK (q := 7)  dX6_mistake_6 rfl (z := p) rfl ?_))))
  refine k_cne hK (q := 10) (t := 14) dX6_mistake_7 rfl rfl (fun h7 => ?_) (fun h7 => ?_)
  · refine k_aln hK (q := 15)  dX6_mistake_14 rfl (z := 1) rfl (k_gR hK (q := 18) (r := 6) dX6_mistake_15 rfl rf_X6_27 rfl rfl (k_ic hK (q := 19)  dX6_mistake_18 rfl (by decide) (k_ald hK (q := 20)  dX6_mistake_19 rfl (y := M 6 0) rfl (by omega) rfl ?_)))
    refine k_ir hK dX6_mistake_20 rfl ?_
    exact ⟨by congr 2; split <;> first | rfl | omega, rfl⟩
  · refine k_ic hK (q := 11)  dX6_mistake_10 rfl (by decide) (k_goto hK (t := 20) dX6_mistake_11 rfl ?_)
    refine k_ir hK dX6_mistake_20 rfl ?_
    exact ⟨by congr 2; split <;> first | rfl | omega, rfl⟩

set_option maxRecDepth 20000 in
set_option maxHeartbeats 2000000 in
theorem t_isThere (d : Nat) (M : ra_M) (n : Int) : Ex d m_X8_isThere [vR 32, vI n] M (fun r M2 => r = some (vI (bi (0 ≤ n ∧ n < M 32 4 ∧ (M 32 8 < 0 ∨ (M 32 8 ≤ n ∧ n ≤ M 32 9))))) ∧ M2 = M) := by
  refine Ex_leaf (Nat.le_of_ble_eq_true rfl) (fun C K hK => ?_)
  show K 0 [some (vR 32), some (vI n)] [] M
  have hK : ra_Clo _ m_X8_isThere cX8_isThere _ K := hK
  refine k_iln hK (q := 1)  dX8_isThere_0 rfl (z := n) rfl ?_
  refine k_iflt hK (q := 4) (t := 39) dX8_isThere_1 rfl rfl (fun h1 => ?_) (fun h1 => ?_)
  · refine k_ic hK (q := 40)  dX8_isThere_39 rfl (by decide) ?_
    refine k_irz hK dX8_isThere_40 rfl (by decide) ?_
    exact ⟨ri0 (by omega), rfl⟩
  · refine k_iln hK (q := 5)  dX8_isThere_4 rfl (z := n) rfl (k_aln hK (q := 6)  dX8_isThere_5 rfl (z := 32) rfl (k_gI hK (q := 9) (z := M 32 4) 0 dX8_isThere_6 rfl rf_X8_86 rfl rfl rfl rfl ?_))
    refine k_cge hK (q := 12) (t := 39) dX8_isThere_9 rfl rfl (fun h9 => ?_) (fun h9 => ?_)
    · refine k_ic hK (q := 40)  dX8_isThere_39 rfl (by decide) ?_
      refine k_irz hK dX8_isThere_40 rfl (by decide) ?_
      exact ⟨ri0 (by omega), rfl⟩
    · refine k_aln hK (q := 13)  dX8_isThere_12 rfl (z := 32) rfl (k_gI hK (q := 16) (z := M 32 8) 0 dX8_isThere_13 rfl rf_X8_28 rfl rfl rfl rfl ?_)
      refine k_iflt hK (q := 19) (t := 35) dX8_isThere_16 rfl rfl (fun h16 => ?_) (fun h16 => ?_)
      · refine k_ic hK (q := 36)  dX8_isThere_35 rfl (by decide) (k_goto hK (t := 40) dX8_isThere_36 rfl ?_)
        refine k_irz hK dX8_isThere_40 rfl (by decide) ?_
        exact ⟨ri1 (by omega), rfl⟩
      · refine k_iln hK (q := 20)  dX8_isThere_19 rfl (z := n) rfl (k_aln hK (q := 21)  dX8_isThere_20 rfl (z := 32) rfl (k_gI hK (q := 24) (z := M 32 8) 0 dX8_isThere_21 rfl rf_X8_28 rfl rfl rfl rfl ?_))
        refine k_clt hK (q := 27) (t := 39) dX8_isThere_24 rfl rfl (fun h24 => ?_) (fun h24 => ?_)
        · refine k_ic hK (q := 40)  dX8_isThere_39 rfl (by decide) ?_
          refine k_irz hK dX8_isThere_40 rfl (by decide) ?_
          exact ⟨ri0 (by omega), rfl⟩
        · refine k_iln hK (q := 28)  dX8_isThere_27 rfl (z := n) rfl (k_aln hK (q := 29)  dX8_isThere_28 rfl (z := 32) rfl (k_gI hK (q := 32) (z := M 32 9) 0 dX8_isThere_29 rfl rf_X8_32 rfl rfl rfl rfl ?_))
          refine k_cgt hK (q := 35) (t := 39) dX8_isThere_32 rfl rfl (fun h32 => ?_) (fun h32 => ?_)
          · refine k_ic hK (q := 40)  dX8_isThere_39 rfl (by decide) ?_
            refine k_irz hK dX8_isThere_40 rfl (by decide) ?_
            exact ⟨ri0 (by omega), rfl⟩
          · refine k_ic hK (q := 36)  dX8_isThere_35 rfl (by decide) (k_goto hK (t := 40) dX8_isThere_36 rfl ?_)
            refine k_irz hK dX8_isThere_40 rfl (by decide) ?_
            exact ⟨ri1 (by omega), rfl⟩
