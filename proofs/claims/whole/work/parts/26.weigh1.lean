/-! what is left to pay, in the class -/
def r23 (M : ra_M) (e : Int) : Int → Int := fun j => M 22 (e * 61 + j)
theorem r23_lw (M : ra_M) (e n s : Int) : r23 (up M 22 (e * 61 + n + 1) (min (M 22 (e * 61 + n + 1)) s)) e = lw (r23 M e) (n + 1) s := by
  funext j
  unfold r23 lw
  by_cases h : j = n + 1
  · subst h
    rw [if_pos rfl]
    show up M 22 _ _ 22 (e * 61 + (n + 1)) = min (M 22 (e * 61 + (n + 1))) s
    rw [show e * 61 + (n + 1) = e * 61 + n + 1 by omega, up_same]
  · rw [if_neg h, up_j _ _ (by omega)]
def off3 (row : Int) (M M2 : ra_M) : Prop := ∀ z, (z < row ∨ row + 61 ≤ z) → M2 22 z = M 22 z
theorem off3_up {row : Int} {M M2 : ra_M} (h : off3 row M M2) {i v : Int} (hi : row ≤ i ∧ i < row + 61) : off3 row M (up M2 22 i v) := fun z hz => by
  rw [up_j _ _ (by omega)]
  exact h z hz
theorem off3_trans {row : Int} {M M1 M2 : ra_M} (h : off3 row M M1) (h2 : off3 row M1 M2) : off3 row M M2 := fun z hz => (h2 z hz).trans (h z hz)

set_option maxRecDepth 20000 in
set_option maxHeartbeats 2000000 in
theorem xc_restAt (d : Nat) (M : ra_M) (e p : Int) (h : 0 ≤ e ∧ e ≤ 120) (hp : -1 ≤ p ∧ p < 60) : Ex d m_X1_restAt [vR 21, vI e, vI p] M (fun r M2 => r = some (vI (M 22 (e * 61 + p + 1))) ∧ M2 = M) := by
  refine Ex_leaf (Nat.le_of_ble_eq_true rfl) (fun C K hK => ?_)
  show K 0 [some (vR 21), some (vI e), some (vI p)] [] M
  have hK : ra_Clo _ m_X1_restAt cX1_restAt _ K := hK
  refine k_aln hK (q := 1)  dX1_restAt_0 rfl (z := 21) rfl (k_gR hK (q := 4) (r := 22) dX1_restAt_1 rfl rf_X1_9 rfl rfl (k_iln hK (q := 5)  dX1_restAt_4 rfl (z := e) rfl (k_bp hK (q := 7)  dX1_restAt_5 rfl (by decide) (k_mul hK (q := 8)  dX1_restAt_7 rfl (z := e * 61) rfl (by omega) (k_iln hK (q := 9)  dX1_restAt_8 rfl (z := p) rfl ?_)))))
  refine k_add hK (q := 10)  dX1_restAt_9 rfl (z := (e * 61) + p) rfl (by omega) (k_ic hK (q := 11)  dX1_restAt_10 rfl (by decide) (k_add hK (q := 12)  dX1_restAt_11 rfl (z := ((e * 61) + p) + 1) rfl (by omega) (k_ald hK (q := 13)  dX1_restAt_12 rfl (y := M 22 (((e * 61) + p) + 1)) rfl (by omega) rfl ?_)))
  refine k_ir hK dX1_restAt_13 rfl ?_
  exact ⟨rfl, rfl⟩

set_option maxRecDepth 20000 in
set_option maxHeartbeats 2000000 in
theorem xc_lowerRest (d : Nat) (M : ra_M) (e p v : Int) (h : 0 ≤ e ∧ e ≤ 120) (hp : -1 ≤ p ∧ p < 60) : Ex (d + 1) m_X1_lowerRest [vR 21, vI e, vI p, vI v] M (fun r M2 => r = none ∧ M2 = up M 22 (e * 61 + p + 1) (min (M 22 (e * 61 + p + 1)) v)) := by
  refine Ex_call (Nat.le_of_ble_eq_true rfl) (fun K hK => ?_)
  show K 0 [some (vR 21), some (vI e), some (vI p), some (vI v), none] [] M
  have hK : ra_Clo _ m_X1_lowerRest cX1_lowerRest _ K := hK
  refine k_iln hK (q := 1)  dX1_lowerRest_0 rfl (z := e) rfl (k_bp hK (q := 3)  dX1_lowerRest_1 rfl (by decide) (k_mul hK (q := 4)  dX1_lowerRest_3 rfl (z := e * 61) rfl (by omega) (k_iln hK (q := 5)  dX1_lowerRest_4 rfl (z := p) rfl (k_add hK (q := 6)  dX1_lowerRest_5 rfl (z := (e * 61) + p) rfl (by omega) (k_ic hK (q := 7)  dX1_lowerRest_6 rfl (by decide) ?_)))))
  refine k_add hK (q := 8)  dX1_lowerRest_7 rfl (z := ((e * 61) + p) + 1) rfl (by omega) (k_is hK (q := 10)  dX1_lowerRest_8 rfl (L2 := [some (vR 21), some (vI e), some (vI p), some (vI v), some (vI (((e * 61) + p) + 1))]) (Nat.le_of_ble_eq_true rfl) rfl (k_aln hK (q := 11)  dX1_lowerRest_10 rfl (z := 21) rfl (k_gR hK (q := 14) (r := 22) dX1_lowerRest_11 rfl rf_X1_9 rfl rfl (k_il hK (q := 16)  dX1_lowerRest_14 rfl (z := (((e * 61) + p) + 1)) rfl (k_aln hK (q := 17)  dX1_lowerRest_16 rfl (z := 21) rfl ?_)))))
  refine k_gR hK (q := 20) (r := 22) dX1_lowerRest_17 rfl rf_X1_9 rfl rfl (k_il hK (q := 22)  dX1_lowerRest_20 rfl (z := (((e * 61) + p) + 1)) rfl (k_ald hK (q := 23)  dX1_lowerRest_22 rfl (y := M 22 (((e * 61) + p) + 1)) rfl (by omega) rfl (k_iln hK (q := 24)  dX1_lowerRest_23 rfl (z := v) rfl ?_)))
  refine k_st2I hK (q := 27) dX1_lowerRest_24 rfl rm_X1_94 (Nat.le_of_ble_eq_true rfl) (t_min _ M (M 22 (((e * 61) + p) + 1)) v) ?_
  refine k_ast hK (q := 28)  dX1_lowerRest_27 rfl rfl (by omega) ?_
  refine k_vr hK dX1_lowerRest_28 rfl ?_
  exact ⟨rfl, rfl⟩

set_option maxRecDepth 20000 in
set_option maxHeartbeats 2000000 in
theorem xc_playPrice (d : Nat) (M : ra_M) (e : Int) (S : Sc) (hs : scC M = S) (hS : okSc S) (i : Nat) (x y w : Int) (hn : NxL M (El S)) (he : (El S)[i]? = some (x, y, w)) (hev : 0 ≤ e ∧ e < 120) : Ex (d + 1) m_X1_playPrice [vR 21, vI (i : Nat), vI e] M (fun r M2 => r = some (vI (w + wr S y (M 8 e))) ∧ M2 = M) := by
  refine Ex_call (Nat.le_of_ble_eq_true rfl) (fun K hK => ?_)
  show K 0 [some (vR 21), some (vI (i : Nat)), some (vI e)] [] M
  have hK : ra_Clo _ m_X1_playPrice cX1_playPrice _ K := hK
  obtain ⟨a2, a3, a4, a5, a6⟩ := scC_a hs
  have hs0 := hS.1
  have k0 := hS.2.2.2.2.2.2.2.1 0 (by omega) (by omega)
  have k2 := hS.2.2.2.2.2.2.2.1 2 (by omega) (by omega)
  have k4 := hS.2.2.2.2.2.2.2.1 4 (by omega) (by omega)
  rw [← a6] at k0 k2 k4
  have hl74 := El_len hS
  have hil := (List.getElem?_eq_some_iff.mp he).1
  obtain ⟨g11, g12, g13⟩ := hn.2 i _ he
  have hm := El_mem hS (List.mem_of_getElem? he)
  simp only at g11 g12 g13 hm
  refine k_aln hK (q := 1)  dX1_playPrice_0 rfl (z := 21) rfl (k_gR hK (q := 4) (r := 10) dX1_playPrice_1 rfl rf_X1_37 rfl rfl (k_gR hK (q := 7) (r := 13) dX1_playPrice_4 rfl rf_X1_99 rfl rfl (k_iln hK (q := 8)  dX1_playPrice_7 rfl (z := (i : Nat)) rfl (k_ald hK (q := 9)  dX1_playPrice_8 rfl (y := M 13 (i : Nat)) rfl (by omega) rfl ?_))))
  rw [g13]
  refine k_aln hK (q := 10)  dX1_playPrice_9 rfl (z := 21) rfl (k_gR hK (q := 13) (r := 1) dX1_playPrice_10 rfl rf_X1_33 rfl rfl (k_aln hK (q := 14)  dX1_playPrice_13 rfl (z := 21) rfl (k_gR hK (q := 17) (r := 10) dX1_playPrice_14 rfl rf_X1_37 rfl rfl (k_gR hK (q := 20) (r := 12) dX1_playPrice_17 rfl rf_X1_104 rfl rfl (k_iln hK (q := 21)  dX1_playPrice_20 rfl (z := (i : Nat)) rfl ?_)))))
  refine k_ald hK (q := 22)  dX1_playPrice_21 rfl (y := M 12 (i : Nat)) rfl (by omega) rfl ?_
  rw [g12]
  refine k_aln hK (q := 23)  dX1_playPrice_22 rfl (z := 21) rfl (k_gR hK (q := 26) (r := 7) dX1_playPrice_23 rfl rf_X1_41 rfl rfl (k_gR hK (q := 29) (r := 8) dX1_playPrice_26 rfl rf_X1_107 rfl rfl (k_iln hK (q := 30)  dX1_playPrice_29 rfl (z := e) rfl (k_ald hK (q := 31)  dX1_playPrice_30 rfl (y := M 8 e) rfl (by omega) rfl ?_))))
  refine k_iv2I hK (q := 34) dX1_playPrice_31 rfl rm_X1_110 rfl rfl (Nat.le_of_ble_eq_true rfl) (t_mistake _ M y (M 8 e) (by omega)) ?_
  have hw : 0 ≤ (if M 2 y = M 8 e then 0 else M 6 0) ∧ (if M 2 y = M 8 e then 0 else M 6 0) ≤ 1000 := by split <;> omega
  refine k_add hK (q := 35)  dX1_playPrice_34 rfl (z := w + (if M 2 y = (M 8 e) then 0 else M 6 0)) rfl (by omega) ?_
  refine k_ir hK dX1_playPrice_35 rfl ?_
  refine ⟨?_, rfl⟩
  unfold wr
  rw [← a2, ← a6]

set_option maxRecDepth 20000 in
set_option maxHeartbeats 2000000 in
theorem xc_leapPrice (d : Nat) (M : ra_M) (n e : Int) (S : Sc) (hs : scC M = S) (hS : okSc S) (hn : 0 ≤ n ∧ n < 60) (hev : 0 ≤ e ∧ e < 120) : Ex (d + 1) m_X1_leapPrice [vR 21, vI n, vI e] M (fun r M2 => r = some (vI (S 5 4 + wr S n (M 8 e))) ∧ M2 = M) := by
  refine Ex_call (Nat.le_of_ble_eq_true rfl) (fun K hK => ?_)
  show K 0 [some (vR 21), some (vI n), some (vI e)] [] M
  have hK : ra_Clo _ m_X1_leapPrice cX1_leapPrice _ K := hK
  obtain ⟨a2, a3, a4, a5, a6⟩ := scC_a hs
  have hs0 := hS.1
  have k0 := hS.2.2.2.2.2.2.2.1 0 (by omega) (by omega)
  have k2 := hS.2.2.2.2.2.2.2.1 2 (by omega) (by omega)
  have k4 := hS.2.2.2.2.2.2.2.1 4 (by omega) (by omega)
  rw [← a6] at k0 k2 k4
  refine k_aln hK (q := 1)  dX1_leapPrice_0 rfl (z := 21) rfl (k_gR hK (q := 4) (r := 1) dX1_leapPrice_1 rfl rf_X1_33 rfl rfl (k_gR hK (q := 7) (r := 6) dX1_leapPrice_4 rfl rf_X1_113 rfl rfl (k_ic hK (q := 8)  dX1_leapPrice_7 rfl (by decide) (k_ald hK (q := 9)  dX1_leapPrice_8 rfl (y := M 6 4) rfl (by omega) rfl (k_aln hK (q := 10)  dX1_leapPrice_9 rfl (z := 21) rfl ?_)))))
  refine k_gR hK (q := 13) (r := 1) dX1_leapPrice_10 rfl rf_X1_33 rfl rfl (k_iln hK (q := 14)  dX1_leapPrice_13 rfl (z := n) rfl (k_aln hK (q := 15)  dX1_leapPrice_14 rfl (z := 21) rfl (k_gR hK (q := 18) (r := 7) dX1_leapPrice_15 rfl rf_X1_41 rfl rfl (k_gR hK (q := 21) (r := 8) dX1_leapPrice_18 rfl rf_X1_107 rfl rfl (k_iln hK (q := 22)  dX1_leapPrice_21 rfl (z := e) rfl ?_)))))
  refine k_ald hK (q := 23)  dX1_leapPrice_22 rfl (y := M 8 e) rfl (by omega) rfl ?_
  refine k_iv2I hK (q := 26) dX1_leapPrice_23 rfl rm_X1_110 rfl rfl (Nat.le_of_ble_eq_true rfl) (t_mistake _ M n (M 8 e) (by omega)) ?_
  have hw : 0 ≤ (if M 2 n = M 8 e then 0 else M 6 0) ∧ (if M 2 n = M 8 e then 0 else M 6 0) ≤ 1000 := by split <;> omega
  refine k_add hK (q := 27)  dX1_leapPrice_26 rfl (z := (M 6 4) + (if M 2 n = (M 8 e) then 0 else M 6 0)) rfl (by omega) ?_
  refine k_ir hK dX1_leapPrice_27 rfl ?_
  refine ⟨?_, rfl⟩
  unfold wr
  rw [← a2, ← a6]

set_option maxRecDepth 20000 in
set_option maxHeartbeats 2000000 in
theorem xc_passPrice (d : Nat) (M : ra_M) (S : Sc) (hs : scC M = S) (hS : okSc S) (i : Nat) (x y w : Int) (hn : NxL M (El S)) (he : (El S)[i]? = some (x, y, w)) : Ex d m_X1_passPrice [vR 21, vI (i : Nat)] M (fun r M2 => r = some (vI (w + S 5 2)) ∧ M2 = M) := by
  refine Ex_leaf (Nat.le_of_ble_eq_true rfl) (fun C K hK => ?_)
  show K 0 [some (vR 21), some (vI (i : Nat))] [] M
  have hK : ra_Clo _ m_X1_passPrice cX1_passPrice _ K := hK
  obtain ⟨a2, a3, a4, a5, a6⟩ := scC_a hs
  have hs0 := hS.1
  have k0 := hS.2.2.2.2.2.2.2.1 0 (by omega) (by omega)
  have k2 := hS.2.2.2.2.2.2.2.1 2 (by omega) (by omega)
  have k4 := hS.2.2.2.2.2.2.2.1 4 (by omega) (by omega)
  rw [← a6] at k0 k2 k4
  have hl74 := El_len hS
  have hil := (List.getElem?_eq_some_iff.mp he).1
  obtain ⟨g11, g12, g13⟩ := hn.2 i _ he
  have hm := El_mem hS (List.mem_of_getElem? he)
  simp only at g11 g12 g13 hm
  refine k_aln hK (q := 1)  dX1_passPrice_0 rfl (z := 21) rfl (k_gR hK (q := 4) (r := 10) dX1_passPrice_1 rfl rf_X1_37 rfl rfl (k_gR hK (q := 7) (r := 13) dX1_passPrice_4 rfl rf_X1_99 rfl rfl (k_iln hK (q := 8)  dX1_passPrice_7 rfl (z := (i : Nat)) rfl (k_ald hK (q := 9)  dX1_passPrice_8 rfl (y := M 13 (i : Nat)) rfl (by omega) rfl ?_))))
  rw [g13]
  refine k_aln hK (q := 10)  dX1_passPrice_9 rfl (z := 21) rfl (k_gR hK (q := 13) (r := 1) dX1_passPrice_10 rfl rf_X1_33 rfl rfl (k_gR hK (q := 16) (r := 6) dX1_passPrice_13 rfl rf_X1_113 rfl rfl (k_ic hK (q := 17)  dX1_passPrice_16 rfl (by decide) (k_ald hK (q := 18)  dX1_passPrice_17 rfl (y := M 6 2) rfl (by omega) rfl (k_add hK (q := 19)  dX1_passPrice_18 rfl (z := w + (M 6 2)) rfl (by omega) ?_)))))
  refine k_ir hK dX1_passPrice_19 rfl ?_
  exact ⟨by rw [← a6], rfl⟩

theorem lp_more {S : Sc} {pit : Int} {r1 : Int → Int} {n m : Nat} (h : n ≤ m) (hn : ∀ i : Nat, n ≤ i → i < m → ¬ thr S (i : Nat)) : lp S pit r1 m = lp S pit r1 n := by
  induction h with
  | refl => rfl
  | step hm ih =>
    rename_i m
    simp only [lp]
    rw [if_neg (hn m hm (by omega)), ih (fun i h1 h2 => hn i h1 (by omega))]

set_option maxRecDepth 20000 in
set_option maxHeartbeats 2000000 in
theorem weighT_a {d : Nat} {Q : Option ra_V → ra_M → Prop} {K : Nat → ra_L → List ra_V → ra_M → Prop} (hK : ra_Clo (Ex (d + 1)) m_X1_weighTaking cX1_weighTaking Q K) {S : Sc} (hS : okSc S) {M : ra_M} (hs : scC M = S) {e : Int} (hev : 0 ≤ e ∧ e < 120) {fi la : Int} (hth : ∀ n : Int, thr S n ↔ fi ≤ n ∧ n ≤ la) (hfl : 0 ≤ fi ∧ fi ≤ la + 1 ∧ la < S 0 0) (hlaS : la = (if S 0 2 ≠ -1 then S 0 3 else S 0 0 - 1)) (hr : ∀ j, pn S j → 0 ≤ M 22 ((e + 1) * 61 + j) ∧ M 22 ((e + 1) * 61 + j) ≤ 200000)
    (hX : ∀ z : Int, K 48 [some (vR 21), some (vI e), some (vI (lp S (M 8 e) (r23 M (e + 1)) (S 0 0).toNat)), some (vI z), none] [] M) :
    ∀ (m n : Nat) (lv : Int), (n : Int) + m = la + 1 → fi ≤ (n : Int) → lv = lp S (M 8 e) (r23 M (e + 1)) n → K 11 [some (vR 21), some (vI e), some (vI lv), some (vI (n : Nat)), none] [] M := by
  have hNV : NV = 1000000000 := rfl
  obtain ⟨e5, e6, e7, e8, e9⟩ := scC_e hs
  have hs0 := hS.1
  have hla : (if M 1 7 ≠ -1 then M 1 8 else M 1 5 - 1) = la := by rw [e5, e7, e8, hlaS]
  have k4 := hS.2.2.2.2.2.2.2.1 4 (by omega) (by omega)
  intro m
  induction m with
  | zero =>
    intro n lv hi hfi hlv
    refine k_iln hK (q := 12)  dX1_weighTaking_11 rfl (z := (n : Nat)) rfl (k_aln hK (q := 13)  dX1_weighTaking_12 rfl (z := 21) rfl (k_gR hK (q := 16) (r := 1) dX1_weighTaking_13 rfl rf_X1_33 rfl rfl ?_))
    refine k_iv0I hK (q := 19) dX1_weighTaking_16 rfl rm_X1_121 rfl rfl (Nat.le_of_ble_eq_true rfl) (t_lastThere _ M (by omega)) ?_
    rw [hla]
    refine k_cgt hK (q := 22) (t := 48) dX1_weighTaking_19 rfl rfl (fun h19 => ?_) (fun h19 => ?_)
    · rw [hlv, ← lp_more (n := n) (m := (S 0 0).toNat) (by omega) (fun i h1 h2 q => by have := (hth (i : Nat)).mp q; omega)]
      exact hX _
    · exact absurd h19 (by omega)
  | succ m ih =>
    intro n lv hi hfi hlv
    have hrn := hr ((n : Nat) + 1) ⟨by omega, by omega⟩
    rw [show (e + 1) * 61 + ((n : Nat) + 1 : Int) = (e + 1) * 61 + (n : Nat) + 1 by omega] at hrn
    refine k_iln hK (q := 12)  dX1_weighTaking_11 rfl (z := (n : Nat)) rfl (k_aln hK (q := 13)  dX1_weighTaking_12 rfl (z := 21) rfl (k_gR hK (q := 16) (r := 1) dX1_weighTaking_13 rfl rf_X1_33 rfl rfl ?_))
    refine k_iv0I hK (q := 19) dX1_weighTaking_16 rfl rm_X1_121 rfl rfl (Nat.le_of_ble_eq_true rfl) (t_lastThere _ M (by omega)) ?_
    rw [hla]
    refine k_cgt hK (q := 22) (t := 48) dX1_weighTaking_19 rfl rfl (fun h19 => ?_) (fun h19 => ?_)
    · exact absurd h19 (by omega)
    · refine k_iln hK (q := 23)  dX1_weighTaking_22 rfl (z := lv) rfl (k_aln hK (q := 24)  dX1_weighTaking_23 rfl (z := 21) rfl (k_iln hK (q := 25)  dX1_weighTaking_24 rfl (z := (n : Nat)) rfl (k_iln hK (q := 26)  dX1_weighTaking_25 rfl (z := e) rfl ?_)))
      refine k_iv2I hK (q := 29) dX1_weighTaking_26 rfl rm_X1_124 rfl rfl (Nat.le_of_ble_eq_true rfl) (xc_leapPrice _ M (n : Nat) e S hs hS (by omega) hev) ?_
      have hw := wr_in hS (n : Nat) (M 8 e)
      refine k_aln hK (q := 30)  dX1_weighTaking_29 rfl (z := 21) rfl (k_iln hK (q := 31)  dX1_weighTaking_30 rfl (z := e) rfl (k_ic hK (q := 32)  dX1_weighTaking_31 rfl (by decide) (k_add hK (q := 33)  dX1_weighTaking_32 rfl (z := e + 1) rfl (by omega) (k_iln hK (q := 34)  dX1_weighTaking_33 rfl (z := (n : Nat)) rfl ?_))))
      refine k_iv2I hK (q := 37) dX1_weighTaking_34 rfl rm_X1_63 rfl rfl (Nat.le_of_ble_eq_true rfl) (xc_restAt _ M (e + 1) (n : Nat) (by omega) (by omega)) ?_
      refine k_add hK (q := 38)  dX1_weighTaking_37 rfl (z := (S 5 4 + wr S (n : Nat) (M 8 e)) + (M 22 ((e + 1) * 61 + (n : Nat) + 1))) rfl (by omega) ?_
      refine k_st2I hK (q := 41) dX1_weighTaking_38 rfl rm_X1_94 (Nat.le_of_ble_eq_true rfl) (t_min _ M lv ((S 5 4 + wr S (n : Nat) (M 8 e)) + (M 22 ((e + 1) * 61 + (n : Nat) + 1)))) ?_
      refine k_isn hK (q := 42)  dX1_weighTaking_41 rfl (L2 := [some (vR 21), some (vI e), some (vI (min lv ((S 5 4 + wr S (n : Nat) (M 8 e)) + (M 22 ((e + 1) * 61 + (n : Nat) + 1))))), some (vI (n : Nat)), none]) (Nat.le_of_ble_eq_true rfl) rfl (k_inc hK (q := 45)  dX1_weighTaking_42 rfl (y := (n : Nat) + 1) (L2 := [some (vR 21), some (vI e), some (vI (min lv ((S 5 4 + wr S (n : Nat) (M 8 e)) + (M 22 ((e + 1) * 61 + (n : Nat) + 1))))), some (vI ((n : Nat) + 1)), none]) rfl rfl (by omega) rfl (k_goto hK (t := 11) dX1_weighTaking_45 rfl ?_))
      refine ih (n + 1) _ (by omega) (by omega) ?_
      simp only [lp]
      rw [if_pos ((hth (n : Nat)).mpr (by omega)), hlv]
      unfold r23
      rw [show (e + 1) * 61 + ((n : Nat) + 1 : Int) = (e + 1) * 61 + (n : Nat) + 1 by omega]

set_option maxRecDepth 20000 in
set_option maxHeartbeats 2000000 in
theorem weighT_b {d : Nat} {Q : Option ra_V → ra_M → Prop} {K : Nat → ra_L → List ra_V → ra_M → Prop} (hK : ra_Clo (Ex d) m_X1_weighTaking cX1_weighTaking Q K) {S : Sc} (hS : okSc S) {M0 : ra_M} {e lv : Int} (hev : 0 ≤ e ∧ e < 120) (hr : ∀ j, pn S j → 0 ≤ M0 22 ((e + 1) * 61 + j) ∧ M0 22 ((e + 1) * 61 + j) ≤ 200000)
    (hX : ∀ M : ra_M, scC M = S → (∀ t : Nat, t ≤ (S 0 0).toNat → M 22 (e * 61 + (t : Nat)) = min lv (S 5 1 + r23 M0 (e + 1) (t : Nat))) → off3 (e * 61) M0 M → frX [22] M0 M → ∀ z, K 106 [some (vR 21), some (vI e), some (vI lv), some (vI z), none] [] M) :
    ∀ (n i : Nat) (M : ra_M) (pl : Int), i + n = (S 0 0).toNat + 1 → pl = (i : Int) - 1 → scC M = S → (∀ t : Nat, t < i → M 22 (e * 61 + (t : Nat)) = min lv (S 5 1 + r23 M0 (e + 1) (t : Nat))) → off3 (e * 61) M0 M → frX [22] M0 M → K 50 [some (vR 21), some (vI e), some (vI lv), some (vI pl), none] [] M := by
  have hs0 := hS.1
  intro n
  induction n with
  | zero =>
    intro i M pl hi hpl hs hc ho hf
    obtain ⟨e5, e6, e7, e8, e9⟩ := scC_e hs
    refine k_iln hK (q := 51)  dX1_weighTaking_50 rfl (z := pl) rfl (k_aln hK (q := 52)  dX1_weighTaking_51 rfl (z := 21) rfl (k_gR hK (q := 55) (r := 1) dX1_weighTaking_52 rfl rf_X1_33 rfl rfl (k_gI hK (q := 58) (z := M 1 5) 0 dX1_weighTaking_55 rfl rf_X1_45 rfl rfl rfl rfl ?_)))
    refine k_cge hK (q := 61) (t := 106) dX1_weighTaking_58 rfl rfl (fun h58 => ?_) (fun h58 => ?_)
    · exact hX M hs (fun t ht => hc t (by omega)) ho hf _
    · exact absurd h58 (by omega)
  | succ n ih =>
    intro i M pl hi hpl hs hc ho hf
    obtain ⟨e5, e6, e7, e8, e9⟩ := scC_e hs
    obtain ⟨a2, a3, a4, a5, a6⟩ := scC_a hs
    have k1 := hS.2.2.2.2.2.2.2.1 1 (by omega) (by omega)
    rw [← a6] at k1
    have hrn := hr (pl + 1) ⟨by omega, by omega⟩
    rw [show (e + 1) * 61 + (pl + 1) = (e + 1) * 61 + pl + 1 by omega, ← ho _ (by omega)] at hrn
    refine k_iln hK (q := 51)  dX1_weighTaking_50 rfl (z := pl) rfl (k_aln hK (q := 52)  dX1_weighTaking_51 rfl (z := 21) rfl (k_gR hK (q := 55) (r := 1) dX1_weighTaking_52 rfl rf_X1_33 rfl rfl (k_gI hK (q := 58) (z := M 1 5) 0 dX1_weighTaking_55 rfl rf_X1_45 rfl rfl rfl rfl ?_)))
    refine k_cge hK (q := 61) (t := 106) dX1_weighTaking_58 rfl rfl (fun h58 => ?_) (fun h58 => ?_)
    · exact absurd h58 (by omega)
    · refine k_aln hK (q := 62)  dX1_weighTaking_61 rfl (z := 21) rfl (k_gR hK (q := 65) (r := 1) dX1_weighTaking_62 rfl rf_X1_33 rfl rfl (k_gR hK (q := 68) (r := 6) dX1_weighTaking_65 rfl rf_X1_113 rfl rfl (k_ic hK (q := 69)  dX1_weighTaking_68 rfl (by decide) (k_ald hK (q := 70)  dX1_weighTaking_69 rfl (y := M 6 1) rfl (by omega) rfl (k_aln hK (q := 71)  dX1_weighTaking_70 rfl (z := 21) rfl ?_)))))
      refine k_iln hK (q := 72)  dX1_weighTaking_71 rfl (z := e) rfl (k_ic hK (q := 73)  dX1_weighTaking_72 rfl (by decide) (k_add hK (q := 74)  dX1_weighTaking_73 rfl (z := e + 1) rfl (by omega) (k_iln hK (q := 75)  dX1_weighTaking_74 rfl (z := pl) rfl ?_)))
      refine k_iv2I hK (q := 78) dX1_weighTaking_75 rfl rm_X1_63 rfl rfl (Nat.le_of_ble_eq_true rfl) (xc_restAt _ M (e + 1) pl (by omega) (by omega)) ?_
      refine k_add hK (q := 79)  dX1_weighTaking_78 rfl (z := (M 6 1) + (M 22 ((e + 1) * 61 + pl + 1))) rfl (by omega) (k_is hK (q := 81)  dX1_weighTaking_79 rfl (L2 := [some (vR 21), some (vI e), some (vI lv), some (vI pl), some (vI ((M 6 1) + (M 22 ((e + 1) * 61 + pl + 1))))]) (Nat.le_of_ble_eq_true rfl) rfl (k_aln hK (q := 82)  dX1_weighTaking_81 rfl (z := 21) rfl (k_gR hK (q := 85) (r := 22) dX1_weighTaking_82 rfl rf_X1_9 rfl rfl (k_iln hK (q := 86)  dX1_weighTaking_85 rfl (z := e) rfl (k_bp hK (q := 88)  dX1_weighTaking_86 rfl (by decide) ?_)))))
      refine k_mul hK (q := 89)  dX1_weighTaking_88 rfl (z := e * 61) rfl (by omega) (k_iln hK (q := 90)  dX1_weighTaking_89 rfl (z := pl) rfl (k_add hK (q := 91)  dX1_weighTaking_90 rfl (z := (e * 61) + pl) rfl (by omega) (k_ic hK (q := 92)  dX1_weighTaking_91 rfl (by decide) (k_add hK (q := 93)  dX1_weighTaking_92 rfl (z := ((e * 61) + pl) + 1) rfl (by omega) (k_iln hK (q := 94)  dX1_weighTaking_93 rfl (z := lv) rfl ?_)))))
      refine k_il hK (q := 96)  dX1_weighTaking_94 rfl (z := ((M 6 1) + (M 22 ((e + 1) * 61 + pl + 1)))) rfl ?_
      refine k_st2I hK (q := 99) dX1_weighTaking_96 rfl rm_X1_94 (Nat.le_of_ble_eq_true rfl) (t_min _ M lv ((M 6 1) + (M 22 ((e + 1) * 61 + pl + 1)))) ?_
      refine k_ast hK (q := 100)  dX1_weighTaking_99 rfl rfl (by omega) (k_inc hK (q := 103)  dX1_weighTaking_100 rfl (y := pl + 1) (L2 := [some (vR 21), some (vI e), some (vI lv), some (vI (pl + 1)), some (vI ((M 6 1) + (M 22 ((e + 1) * 61 + pl + 1))))]) rfl rfl (by omega) rfl (k_goto hK (t := 50) dX1_weighTaking_103 rfl ?_))
      refine k_weak hK (L2 := [some (vR 21), some (vI e), some (vI lv), some (vI (pl + 1)), none]) ⟨Or.inl rfl, Or.inl rfl, Or.inl rfl, Or.inl rfl, Or.inr rfl, trivial⟩ ?_
      refine ih (i + 1) _ (pl + 1) (by omega) (by omega) (by rw [scC_fr (M := M) (frX_S (l := [22]) (frX_up (frX_refl _ _) _ _ (by decide)) (by decide))]; exact hs) (fun t ht => ?_) (off3_up ho (by omega)) (frX_up hf _ _ (by decide))
      by_cases h : t = i
      · subst h
        rw [show e * 61 + (t : Nat) = e * 61 + pl + 1 by omega, up_same, ho _ (by omega), a6]
        unfold r23
        rw [show (e + 1) * 61 + (t : Nat) = (e + 1) * 61 + pl + 1 by omega]
      · rw [up_j _ _ (by omega)]
        exact hc t (by omega)

set_option maxRecDepth 20000 in
set_option maxHeartbeats 2000000 in
theorem weighT_c {d : Nat} {Q : Option ra_V → ra_M → Prop} {K : Nat → ra_L → List ra_V → ra_M → Prop} (hK : ra_Clo (Ex (d + 1)) m_X1_weighTaking cX1_weighTaking Q K) {S : Sc} (hS : okSc S) {M0 : ra_M} {e lv : Int} {t0 : Int → Int} (hev : 0 ≤ e ∧ e < 120) (hr : ∀ j, pn S j → 0 ≤ M0 22 ((e + 1) * 61 + j) ∧ M0 22 ((e + 1) * 61 + j) ≤ 200000)
    (hQ : ∀ (M : ra_M), r23 M e = bw2 S (M0 8 e) (r23 M0 (e + 1)) (El S) t0 → off3 (e * 61) M0 M → frX [22] M0 M → Q none M) :
    ∀ (n i : Nat) (M : ra_M), i + n = (El S).length → scC M = S → NxL M (El S) → r23 M e = bw2 S (M0 8 e) (r23 M0 (e + 1)) ((El S).take i) t0 → off3 (e * 61) M0 M → frX [22] M0 M → K 108 [some (vR 21), some (vI e), some (vI lv), some (vI (i : Nat)), none] [] M := by
  intro n
  induction n with
  | zero =>
    intro i M hi hs hn ht ho hf
    have en := hn.1
    have hl74 := El_len hS
    refine k_iln hK (q := 109)  dX1_weighTaking_108 rfl (z := (i : Nat)) rfl (k_aln hK (q := 110)  dX1_weighTaking_109 rfl (z := 21) rfl (k_gR hK (q := 113) (r := 10) dX1_weighTaking_110 rfl rf_X1_37 rfl rfl (k_gI hK (q := 116) (z := M 10 5) 0 dX1_weighTaking_113 rfl rf_X1_127 rfl rfl rfl rfl ?_)))
    refine k_cge hK (q := 119) (t := 166) dX1_weighTaking_116 rfl rfl (fun h116 => ?_) (fun h116 => ?_)
    · refine k_vr hK dX1_weighTaking_166 rfl ?_
      have hi2 : (El S).take i = El S := List.take_of_length_le (by omega)
      rw [hi2] at ht
      exact hQ M ht ho hf
    · exact absurd h116 (by omega)
  | succ n ih =>
    intro i M hi hs hn ht ho hf
    have en := hn.1
    have hl74 := El_len hS
    have hs0 := hS.1
    have h8 : M 8 e = M0 8 e := by rw [hf 8 (by decide)]
    obtain ⟨⟨x, y, w⟩, he⟩ : ∃ e : Eg, (El S)[i]? = some e := ⟨_, List.getElem?_eq_getElem (by omega)⟩
    obtain ⟨g11, g12, g13⟩ := hn.2 i _ he
    have hm := El_mem hS (List.mem_of_getElem? he)
    simp only at g11 g12 g13 hm
    have hry := hr (y + 1) ⟨by omega, by omega⟩
    rw [show (e + 1) * 61 + (y + 1) = (e + 1) * 61 + y + 1 by omega, ← ho _ (by omega)] at hry
    refine k_iln hK (q := 109)  dX1_weighTaking_108 rfl (z := (i : Nat)) rfl (k_aln hK (q := 110)  dX1_weighTaking_109 rfl (z := 21) rfl (k_gR hK (q := 113) (r := 10) dX1_weighTaking_110 rfl rf_X1_37 rfl rfl (k_gI hK (q := 116) (z := M 10 5) 0 dX1_weighTaking_113 rfl rf_X1_127 rfl rfl rfl rfl ?_)))
    refine k_cge hK (q := 119) (t := 166) dX1_weighTaking_116 rfl rfl (fun h116 => ?_) (fun h116 => ?_)
    · exact absurd h116 (by omega)
    · refine k_aln hK (q := 120)  dX1_weighTaking_119 rfl (z := 21) rfl (k_iln hK (q := 121)  dX1_weighTaking_120 rfl (z := (i : Nat)) rfl (k_iln hK (q := 122)  dX1_weighTaking_121 rfl (z := e) rfl ?_))
      refine k_iv2I hK (q := 125) dX1_weighTaking_122 rfl rm_X1_128 rfl rfl (Nat.le_of_ble_eq_true rfl) (xc_playPrice _ M e S hs hS i x y w hn he hev) ?_
      have hw := wr_in hS y (M 8 e)
      refine k_aln hK (q := 126)  dX1_weighTaking_125 rfl (z := 21) rfl (k_iln hK (q := 127)  dX1_weighTaking_126 rfl (z := e) rfl (k_ic hK (q := 128)  dX1_weighTaking_127 rfl (by decide) (k_add hK (q := 129)  dX1_weighTaking_128 rfl (z := e + 1) rfl (by omega) (k_aln hK (q := 130)  dX1_weighTaking_129 rfl (z := 21) rfl (k_gR hK (q := 133) (r := 10) dX1_weighTaking_130 rfl rf_X1_37 rfl rfl ?_)))))
      refine k_gR hK (q := 136) (r := 12) dX1_weighTaking_133 rfl rf_X1_104 rfl rfl (k_iln hK (q := 137)  dX1_weighTaking_136 rfl (z := (i : Nat)) rfl (k_ald hK (q := 138)  dX1_weighTaking_137 rfl (y := M 12 (i : Nat)) rfl (by omega) rfl ?_))
      rw [g12]
      refine k_iv2I hK (q := 141) dX1_weighTaking_138 rfl rm_X1_63 rfl rfl (Nat.le_of_ble_eq_true rfl) (xc_restAt _ M (e + 1) y (by omega) (by omega)) ?_
      refine k_add hK (q := 142)  dX1_weighTaking_141 rfl (z := (w + wr S y (M 8 e)) + (M 22 ((e + 1) * 61 + y + 1))) rfl (by omega) (k_is hK (q := 144)  dX1_weighTaking_142 rfl (L2 := [some (vR 21), some (vI e), some (vI lv), some (vI (i : Nat)), some (vI ((w + wr S y (M 8 e)) + (M 22 ((e + 1) * 61 + y + 1))))]) (Nat.le_of_ble_eq_true rfl) rfl (k_aln hK (q := 145)  dX1_weighTaking_144 rfl (z := 21) rfl (k_iln hK (q := 146)  dX1_weighTaking_145 rfl (z := e) rfl (k_aln hK (q := 147)  dX1_weighTaking_146 rfl (z := 21) rfl (k_gR hK (q := 150) (r := 10) dX1_weighTaking_147 rfl rf_X1_37 rfl rfl ?_)))))
      refine k_gR hK (q := 153) (r := 11) dX1_weighTaking_150 rfl rf_X1_131 rfl rfl (k_iln hK (q := 154)  dX1_weighTaking_153 rfl (z := (i : Nat)) rfl (k_ald hK (q := 155)  dX1_weighTaking_154 rfl (y := M 11 (i : Nat)) rfl (by omega) rfl ?_))
      rw [g11]
      refine k_il hK (q := 157)  dX1_weighTaking_155 rfl (z := ((w + wr S y (M 8 e)) + (M 22 ((e + 1) * 61 + y + 1)))) rfl ?_
      refine k_iv3V hK (q := 160) dX1_weighTaking_157 rfl rm_X1_134 rfl rfl (Nat.le_of_ble_eq_true rfl) (xc_lowerRest _ M e x ((w + wr S y (M 8 e)) + (M 22 ((e + 1) * 61 + y + 1))) (by omega) (by omega)) ?_
      refine k_inc hK (q := 163)  dX1_weighTaking_160 rfl (y := (i : Nat) + 1) (L2 := [some (vR 21), some (vI e), some (vI lv), some (vI ((i : Nat) + 1)), some (vI ((w + wr S y (M 8 e)) + (M 22 ((e + 1) * 61 + y + 1))))]) rfl rfl (by omega) rfl (k_goto hK (t := 108) dX1_weighTaking_163 rfl ?_)
      refine k_weak hK (L2 := [some (vR 21), some (vI e), some (vI lv), some (vI ((i : Nat) + 1)), none]) ⟨Or.inl rfl, Or.inl rfl, Or.inl rfl, Or.inl rfl, Or.inr rfl, trivial⟩ ?_
      have hfu : frX [22] M (up M 22 (e * 61 + x + 1) (min (M 22 (e * 61 + x + 1)) ((w + wr S y (M 8 e)) + (M 22 ((e + 1) * 61 + y + 1))))) := frX_up (frX_refl _ _) _ _ (by decide)
      refine ih (i + 1) _ (by omega) (by rw [scC_fr (M := M) (frX_S hfu (by decide))]; exact hs) (NxL_fr hn (hfu 10 (by decide)) (hfu 11 (by decide)) (hfu 12 (by decide)) (hfu 13 (by decide))) ?_ (off3_up ho (by omega)) (frX_up hf _ _ (by decide))
      rw [r23_lw, ht, bw2_take he]
      simp only
      congr 1
      rw [h8, ho _ (by omega)]
      unfold r23
      rw [show (e + 1) * 61 + (y + 1) = (e + 1) * 61 + y + 1 by omega]

set_option maxRecDepth 20000 in
set_option maxHeartbeats 2000000 in
theorem xc_weighT (d : Nat) (M : ra_M) (e : Int) (S : Sc) (hs : scC M = S) (hS : okSc S) (hn : NxL M (El S)) (hev : 0 ≤ e ∧ e < 120) (hr : ∀ j, pn S j → 0 ≤ M 22 ((e + 1) * 61 + j) ∧ M 22 ((e + 1) * 61 + j) ≤ 200000) : Ex (d + 2) m_X1_weighTaking [vR 21, vI e] M (fun r M2 => r = none ∧ (∀ j, pn S j → M2 22 (e * 61 + j) = bw S (M 8 e) (r23 M (e + 1)) j) ∧ off3 (e * 61) M M2 ∧ frX [22] M M2) := by
  refine Ex_call (Nat.le_of_ble_eq_true rfl) (fun K hK => ?_)
  show K 0 [some (vR 21), some (vI e), none, none, none] [] M
  have hK : ra_Clo _ m_X1_weighTaking cX1_weighTaking _ K := hK
  have hs0 := hS.1
  have hs2 := hS.2.2.1
  obtain ⟨e5, e6, e7, e8, e9⟩ := scC_e hs
  obtain ⟨LV, hLVe⟩ : ∃ z, z = lp S (M 8 e) (r23 M (e + 1)) (S 0 0).toNat := ⟨_, rfl⟩
  obtain ⟨fi, hfie⟩ : ∃ z, z = (if S 0 2 ≠ -1 then S 0 2 else 0) := ⟨_, rfl⟩
  obtain ⟨la, hla⟩ : ∃ z, z = (if S 0 2 ≠ -1 then S 0 3 else S 0 0 - 1) := ⟨_, rfl⟩
  have hth : ∀ n : Int, thr S n ↔ fi ≤ n ∧ n ≤ la := by
    intro n
    have := thr_C hs hS n
    rw [e5, e7, e8, ← hfie, ← hla] at this
    exact this.symm
  have hfl : 0 ≤ fi ∧ fi ≤ la + 1 ∧ la < S 0 0 := by
    split at hfie <;> split at hla <;> omega
  have J106 : ∀ M1 : ra_M, scC M1 = S → (∀ t : Nat, t ≤ (S 0 0).toNat → M1 22 (e * 61 + (t : Nat)) = min LV (S 5 1 + r23 M (e + 1) (t : Nat))) → off3 (e * 61) M M1 → frX [22] M M1 → ∀ z, K 106 [some (vR 21), some (vI e), some (vI LV), some (vI z), none] [] M1 := by
    intro M1 hs1 hc1 ho1 hf1 z
    refine k_ic hK (q := 107)  dX1_weighTaking_106 rfl (by decide) (k_isn hK (q := 108)  dX1_weighTaking_107 rfl (L2 := [some (vR 21), some (vI e), some (vI LV), some (vI 0), none]) (Nat.le_of_ble_eq_true rfl) rfl ?_)
    refine weighT_c hK hS (M0 := M) (lv := LV) (t0 := r23 M1 e) hev hr (fun M2 h1 h2 h3 => ⟨rfl, fun j hj => ?_, h2, h3⟩) (El S).length 0 M1 (by omega) hs1 (NxL_fr hn (hf1 10 (by decide)) (hf1 11 (by decide)) (hf1 12 (by decide)) (hf1 13 (by decide))) rfl ho1 hf1
    have h9 : r23 M2 e j = _ := congrFun h1 j
    unfold r23 at h9
    rw [h9]
    unfold bw
    rw [← hLVe]
    exact bw2_congP (P := pn S) (El S) (fun f hf => (El_pn hS f hf).2) (fun _ _ => rfl) _ _ (fun j hj => by have := hc1 j.toNat (by omega); rw [show ((j.toNat : Nat) : Int) = j by omega] at this; exact this) j hj
  have J48 : ∀ z : Int, K 48 [some (vR 21), some (vI e), some (vI LV), some (vI z), none] [] M := by
    intro z
    refine k_ic hK (q := 49)  dX1_weighTaking_48 rfl (by decide) (k_isn hK (q := 50)  dX1_weighTaking_49 rfl (L2 := [some (vR 21), some (vI e), some (vI LV), some (vI (-1)), none]) (Nat.le_of_ble_eq_true rfl) rfl ?_)
    exact weighT_b hK hS (M0 := M) (lv := LV) hev hr J106 ((S 0 0).toNat + 1) 0 M (-1) (by omega) (by omega) hs (fun t ht => by omega) (fun z hz => rfl) (frX_refl _ _)
  refine k_ldc hK (q := 2)  dX1_weighTaking_0 rfl rc_X1_116 (k_isn hK (q := 3)  dX1_weighTaking_2 rfl (L2 := [some (vR 21), some (vI e), some (vI 1000000000), none, none]) (Nat.le_of_ble_eq_true rfl) rfl (k_aln hK (q := 4)  dX1_weighTaking_3 rfl (z := 21) rfl (k_gR hK (q := 7) (r := 1) dX1_weighTaking_4 rfl rf_X1_33 rfl rfl ?_)))
  refine k_iv0I hK (q := 10) dX1_weighTaking_7 rfl rm_X1_117 rfl rfl (Nat.le_of_ble_eq_true rfl) (t_firstThere _ M) ?_
  have hfi : (if M 1 7 ≠ -1 then M 1 7 else 0) = ((fi.toNat : Nat) : Int) := by rw [e7]; omega
  rw [hfi]
  refine k_isn hK (q := 11)  dX1_weighTaking_10 rfl (L2 := [some (vR 21), some (vI e), some (vI 1000000000), some (vI (fi.toNat : Nat)), none]) (Nat.le_of_ble_eq_true rfl) rfl ?_
  rw [hLVe] at J48
  exact weighT_a hK hS hs hev hth hfl hla hr J48 (la + 1 - fi).toNat fi.toNat NV (by omega) (by omega) (lp_more (n := 0) (m := fi.toNat) (by omega) (fun i h1 h2 q => by have := (hth (i : Nat)).mp q; omega)).symm
