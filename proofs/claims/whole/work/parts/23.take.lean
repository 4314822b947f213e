/-! taking an EVENT, in the class -/
def rv (M : ra_M) (row : Int) : Int → Int := fun j => M 16 (row + j)
theorem rv_lw (M : ra_M) (row n s : Int) : rv (up M 16 (row + n + 1) (min (M 16 (row + n + 1)) s)) row = lw (rv M row) (n + 1) s := by
  funext j
  unfold rv lw
  by_cases h : j = n + 1
  · subst h
    rw [if_pos rfl]
    show up M 16 _ _ 16 (row + (n + 1)) = min (M 16 (row + (n + 1))) s
    rw [show row + (n + 1) = row + n + 1 by omega, up_same]
  · rw [if_neg h, up_j _ _ (by omega)]
theorem tk1_none {S : Sc} {t : Int → Int} {v pit : Int} : ∀ n : Nat, (∀ i : Nat, i < n → ¬ thr S (i : Nat)) → tk1 S t v pit n = t := by
  intro n
  induction n with
  | zero => intro _; rfl
  | succ n ih => intro h; simp only [tk1]; rw [if_neg (h n (by omega)), ih (fun i hi => h i (by omega))]
theorem tk1_more {S : Sc} {t : Int → Int} {v pit : Int} {n m : Nat} (h : n ≤ m) (hn : ∀ i : Nat, n ≤ i → i < m → ¬ thr S (i : Nat)) : tk1 S t v pit m = tk1 S t v pit n := by
  induction h with
  | refl => rfl
  | step hm ih =>
    rename_i m
    simp only [tk1]
    rw [if_neg (hn m hm (by omega)), ih (fun i h1 h2 => hn i h1 (by omega))]
/-- outside of a row of 61 nothing changes -/
def offR (row : Int) (M M2 : ra_M) : Prop := ∀ z, (z < row ∨ row + 61 ≤ z) → M2 16 z = M 16 z
theorem offR_up {row : Int} {M M2 : ra_M} (h : offR row M M2) {i v : Int} (hi : row ≤ i ∧ i < row + 61) : offR row M (up M2 16 i v) := fun z hz => by
  rw [up_j _ _ (by omega)]
  exact h z hz

set_option maxRecDepth 20000 in
set_option maxHeartbeats 2000000 in
theorem xc_lower (d : Nat) (M : ra_M) (row p v : Int) (h : 0 ≤ row ∧ row ≤ 7320) (hp : -1 ≤ p ∧ p < 60) : Ex (d + 1) m_X3_lower [vR 15, vI row, vI p, vI v] M (fun r M2 => r = none ∧ M2 = up M 16 (row + p + 1) (min (M 16 (row + p + 1)) v)) := by
  refine Ex_call (Nat.le_of_ble_eq_true rfl) (fun K hK => ?_)
  show K 0 [some (vR 15), some (vI row), some (vI p), some (vI v), none] [] M
  have hK : ra_Clo _ m_X3_lower cX3_lower _ K := hK
  refine k_iln hK (q := 1)  dX3_lower_0 rfl (z := row) rfl (k_iln hK (q := 2)  dX3_lower_1 rfl (z := p) rfl (k_add hK (q := 3)  dX3_lower_2 rfl (z := row + p) rfl (by omega) (k_ic hK (q := 4)  dX3_lower_3 rfl (by decide) (k_add hK (q := 5)  dX3_lower_4 rfl (z := (row + p) + 1) rfl (by omega) (k_is hK (q := 7)  dX3_lower_5 rfl (L2 := [some (vR 15), some (vI row), some (vI p), some (vI v), some (vI ((row + p) + 1))]) (Nat.le_of_ble_eq_true rfl) rfl ?_)))))
  refine k_aln hK (q := 8)  dX3_lower_7 rfl (z := 15) rfl (k_gR hK (q := 11) (r := 16) dX3_lower_8 rfl rf_X3_9 rfl rfl (k_il hK (q := 13)  dX3_lower_11 rfl (z := ((row + p) + 1)) rfl (k_aln hK (q := 14)  dX3_lower_13 rfl (z := 15) rfl (k_gR hK (q := 17) (r := 16) dX3_lower_14 rfl rf_X3_9 rfl rfl (k_il hK (q := 19)  dX3_lower_17 rfl (z := ((row + p) + 1)) rfl ?_)))))
  refine k_ald hK (q := 20)  dX3_lower_19 rfl (y := M 16 ((row + p) + 1)) rfl (by omega) rfl (k_iln hK (q := 21)  dX3_lower_20 rfl (z := v) rfl ?_)
  refine k_st2I hK (q := 24) dX3_lower_21 rfl rm_X3_82 (Nat.le_of_ble_eq_true rfl) (t_min _ M (M 16 ((row + p) + 1)) v) ?_
  refine k_ast hK (q := 25)  dX3_lower_24 rfl rfl (by omega) ?_
  refine k_vr hK dX3_lower_25 rfl ?_
  exact ⟨rfl, rfl⟩

set_option maxRecDepth 20000 in
set_option maxHeartbeats 2000000 in
theorem take_a {d : Nat} {Q : Option ra_V → ra_M → Prop} {K : Nat → ra_L → List ra_V → ra_M → Prop} (hK : ra_Clo (Ex d) m_X3_take cX3_take Q K) {S : Sc} (hS : okSc S) {M0 : ra_M} {row pit : Int} (hrow : 0 ≤ row ∧ row ≤ 7320) (hr : ∀ j, pn S j → 0 ≤ M0 18 j ∧ M0 18 j ≤ NV)
    (hX : ∀ (M : ra_M), scC M = S → (∀ t : Nat, t ≤ (S 0 0).toNat → M 16 (row + (t : Nat)) = tk0 S (M0 18) (t : Nat)) → offR row M0 M → frX [16] M0 M → ∀ z, K 67 [some (vR 15), some (vI row), some (vI pit), some (vI (least (M0 18) ((S 0 0).toNat + 1))), some (vI z), none, none] [] M) :
    ∀ (n i : Nat) (M : ra_M) (le : Int), i + n = (S 0 0).toNat + 1 → scC M = S → le = least (M0 18) i → (∀ t : Nat, t < i → M 16 (row + (t : Nat)) = tk0 S (M0 18) (t : Nat)) → offR row M0 M → frX [16] M0 M → K 6 [some (vR 15), some (vI row), some (vI pit), some (vI le), some (vI (i : Nat)), none, none] [] M := by
  have hNV : NV = 1000000000 := rfl
  intro n
  induction n with
  | zero =>
    intro i M le hi hs hle hc ho hf
    obtain ⟨e5, e6, e7, e8, e9⟩ := scC_e hs
    have hs0 := hS.1
    refine k_il hK (q := 8)  dX3_take_6 rfl (z := (i : Nat)) rfl (k_aln hK (q := 9)  dX3_take_8 rfl (z := 15) rfl (k_gR hK (q := 12) (r := 1) dX3_take_9 rfl rf_X3_21 rfl rfl (k_gI hK (q := 15) (z := M 1 5) 0 dX3_take_12 rfl rf_X3_58 rfl rfl rfl rfl ?_)))
    refine k_cgt hK (q := 18) (t := 67) dX3_take_15 rfl rfl (fun h15 => ?_) (fun h15 => ?_)
    · have hi2 : i = (S 0 0).toNat + 1 := by omega
      subst hi2
      subst hle
      exact hX M hs (fun t ht => hc t (by omega)) ho hf _
    · exact absurd h15 (by omega)
  | succ n ih =>
    intro i M le hi hs hle hc ho hf
    obtain ⟨e5, e6, e7, e8, e9⟩ := scC_e hs
    obtain ⟨a2, a3, a4, a5, a6⟩ := scC_a hs
    have hs0 := hS.1
    have hc1 := hS.2.2.2.2.2.2.2.1 1 (by omega) (by omega)
    rw [← a6] at hc1
    have h18 : M 18 = M0 18 := hf 18 (by decide)
    have hri := hr (i : Nat) ⟨by omega, by omega⟩
    rw [← h18] at hri
    refine k_il hK (q := 8)  dX3_take_6 rfl (z := (i : Nat)) rfl (k_aln hK (q := 9)  dX3_take_8 rfl (z := 15) rfl (k_gR hK (q := 12) (r := 1) dX3_take_9 rfl rf_X3_21 rfl rfl (k_gI hK (q := 15) (z := M 1 5) 0 dX3_take_12 rfl rf_X3_58 rfl rfl rfl rfl ?_)))
    refine k_cgt hK (q := 18) (t := 67) dX3_take_15 rfl rfl (fun h15 => ?_) (fun h15 => ?_)
    · exact absurd h15 (by omega)
    · refine k_iln hK (q := 19)  dX3_take_18 rfl (z := le) rfl (k_aln hK (q := 20)  dX3_take_19 rfl (z := 15) rfl (k_gR hK (q := 23) (r := 18) dX3_take_20 rfl rf_X3_18 rfl rfl (k_il hK (q := 25)  dX3_take_23 rfl (z := (i : Nat)) rfl (k_ald hK (q := 26)  dX3_take_25 rfl (y := M 18 (i : Nat)) rfl (by omega) rfl ?_))))
      refine k_st2I hK (q := 29) dX3_take_26 rfl rm_X3_82 (Nat.le_of_ble_eq_true rfl) (t_min _ M le (M 18 (i : Nat))) ?_
      refine k_isn hK (q := 30)  dX3_take_29 rfl (L2 := [some (vR 15), some (vI row), some (vI pit), some (vI (min le (M 18 (i : Nat)))), some (vI (i : Nat)), none, none]) (Nat.le_of_ble_eq_true rfl) rfl (k_aln hK (q := 31)  dX3_take_30 rfl (z := 15) rfl (k_gR hK (q := 34) (r := 16) dX3_take_31 rfl rf_X3_9 rfl rfl (k_iln hK (q := 35)  dX3_take_34 rfl (z := row) rfl (k_il hK (q := 37)  dX3_take_35 rfl (z := (i : Nat)) rfl (k_add hK (q := 38)  dX3_take_37 rfl (z := row + (i : Nat)) rfl (by omega) ?_)))))
      refine k_ldc hK (q := 40)  dX3_take_38 rfl rc_X3_33 (k_aln hK (q := 41)  dX3_take_40 rfl (z := 15) rfl (k_gR hK (q := 44) (r := 18) dX3_take_41 rfl rf_X3_18 rfl rfl (k_il hK (q := 46)  dX3_take_44 rfl (z := (i : Nat)) rfl (k_ald hK (q := 47)  dX3_take_46 rfl (y := M 18 (i : Nat)) rfl (by omega) rfl (k_aln hK (q := 48)  dX3_take_47 rfl (z := 15) rfl ?_)))))
      refine k_gR hK (q := 51) (r := 1) dX3_take_48 rfl rf_X3_21 rfl rfl (k_gR hK (q := 54) (r := 6) dX3_take_51 rfl rf_X3_76 rfl rfl (k_ic hK (q := 55)  dX3_take_54 rfl (by decide) (k_ald hK (q := 56)  dX3_take_55 rfl (y := M 6 1) rfl (by omega) rfl (k_add hK (q := 57)  dX3_take_56 rfl (z := (M 18 (i : Nat)) + (M 6 1)) rfl (by omega) ?_))))
      refine k_st2I hK (q := 60) dX3_take_57 rfl rm_X3_82 (Nat.le_of_ble_eq_true rfl) (t_min _ M 1000000000 ((M 18 (i : Nat)) + (M 6 1))) ?_
      refine k_ast hK (q := 61)  dX3_take_60 rfl rfl (by omega) (k_inc hK (q := 64)  dX3_take_61 rfl (y := (i : Nat) + 1) (L2 := [some (vR 15), some (vI row), some (vI pit), some (vI (min le (M 18 (i : Nat)))), some (vI ((i : Nat) + 1)), none, none]) rfl rfl (by omega) rfl (k_goto hK (t := 6) dX3_take_64 rfl ?_))
      refine ih (i + 1) _ _ (by omega) (by rw [scC_fr (M := M) (frX_S (l := [16]) (frX_up (frX_refl _ _) _ _ (by decide)) (by decide))]; exact hs) (by rw [hle, h18]; rfl) (fun t ht => ?_) (offR_up ho (by omega)) (frX_up hf _ _ (by decide))
      by_cases h : t = i
      · subst h
        rw [up_same]
        unfold tk0
        rw [← a6, h18]
      · rw [up_j _ _ (by omega)]
        exact hc t (by omega)

set_option maxRecDepth 20000 in
set_option maxHeartbeats 2000000 in
theorem take_b {d : Nat} {Q : Option ra_V → ra_M → Prop} {K : Nat → ra_L → List ra_V → ra_M → Prop} (hK : ra_Clo (Ex (d + 1)) m_X3_take cX3_take Q K) {S : Sc} (hS : okSc S) {M0 : ra_M} {row pit le fi la : Int} {t0 : Int → Int} (hrow : 0 ≤ row ∧ row ≤ 7320) (hle : 0 ≤ le ∧ le ≤ NV) (hth : ∀ n : Int, thr S n ↔ fi ≤ n ∧ n ≤ la) (hfl : 0 ≤ fi ∧ fi ≤ la + 1 ∧ la < S 0 0) (hlaS : la = (if S 0 2 ≠ -1 then S 0 3 else S 0 0 - 1))
    (hX : ∀ (M : ra_M), scC M = S → rv M row = tk1 S t0 (le + S 5 4) pit (S 0 0).toNat → offR row M0 M → frX [16] M0 M → ∀ z, K 123 [some (vR 15), some (vI row), some (vI pit), some (vI le), some (vI z), none, none] [] M) :
    ∀ (m n : Nat) (M : ra_M), (n : Int) + m = la + 1 → scC M = S → fi ≤ (n : Int) → rv M row = tk1 S t0 (le + S 5 4) pit n → offR row M0 M → frX [16] M0 M → K 76 [some (vR 15), some (vI row), some (vI pit), some (vI le), some (vI (n : Nat)), none, none] [] M := by
  have hNV : NV = 1000000000 := rfl
  intro m
  induction m with
  | zero =>
    intro n M hi hs hfi ht ho hf
    obtain ⟨e5, e6, e7, e8, e9⟩ := scC_e hs
    have hs0 := hS.1
    have hla : (if M 1 7 ≠ -1 then M 1 8 else M 1 5 - 1) = la := by rw [e5, e7, e8, hlaS]
    refine k_il hK (q := 78)  dX3_take_76 rfl (z := (n : Nat)) rfl (k_aln hK (q := 79)  dX3_take_78 rfl (z := 15) rfl (k_gR hK (q := 82) (r := 1) dX3_take_79 rfl rf_X3_21 rfl rfl ?_))
    refine k_iv0I hK (q := 85) dX3_take_82 rfl rm_X3_91 rfl rfl (Nat.le_of_ble_eq_true rfl) (t_lastThere _ M (by omega)) ?_
    rw [hla]
    refine k_cgt hK (q := 88) (t := 123) dX3_take_85 rfl rfl (fun h85 => ?_) (fun h85 => ?_)
    · exact hX M hs (by rw [ht, tk1_more (n := n) (m := (S 0 0).toNat) (by omega) (fun i h1 h2 q => by have := (hth (i : Nat)).mp q; omega)]) ho hf _
    · exact absurd h85 (by omega)
  | succ m ih =>
    intro n M hi hs hfi ht ho hf
    obtain ⟨e5, e6, e7, e8, e9⟩ := scC_e hs
    obtain ⟨a2, a3, a4, a5, a6⟩ := scC_a hs
    have hs0 := hS.1
    have hla : (if M 1 7 ≠ -1 then M 1 8 else M 1 5 - 1) = la := by rw [e5, e7, e8, hlaS]
    have hc4 := hS.2.2.2.2.2.2.2.1 4 (by omega) (by omega)
    have hc0 := hS.2.2.2.2.2.2.2.1 0 (by omega) (by omega)
    rw [← a6] at hc4 hc0
    refine k_il hK (q := 78)  dX3_take_76 rfl (z := (n : Nat)) rfl (k_aln hK (q := 79)  dX3_take_78 rfl (z := 15) rfl (k_gR hK (q := 82) (r := 1) dX3_take_79 rfl rf_X3_21 rfl rfl ?_))
    refine k_iv0I hK (q := 85) dX3_take_82 rfl rm_X3_91 rfl rfl (Nat.le_of_ble_eq_true rfl) (t_lastThere _ M (by omega)) ?_
    rw [hla]
    refine k_cgt hK (q := 88) (t := 123) dX3_take_85 rfl rfl (fun h85 => ?_) (fun h85 => ?_)
    · exact absurd h85 (by omega)
    · refine k_aln hK (q := 89)  dX3_take_88 rfl (z := 15) rfl (k_iln hK (q := 90)  dX3_take_89 rfl (z := row) rfl (k_il hK (q := 92)  dX3_take_90 rfl (z := (n : Nat)) rfl (k_iln hK (q := 93)  dX3_take_92 rfl (z := le) rfl (k_aln hK (q := 94)  dX3_take_93 rfl (z := 15) rfl (k_gR hK (q := 97) (r := 1) dX3_take_94 rfl rf_X3_21 rfl rfl ?_)))))
      refine k_gR hK (q := 100) (r := 6) dX3_take_97 rfl rf_X3_76 rfl rfl (k_ic hK (q := 101)  dX3_take_100 rfl (by decide) (k_ald hK (q := 102)  dX3_take_101 rfl (y := M 6 4) rfl (by omega) rfl (k_add hK (q := 103)  dX3_take_102 rfl (z := le + (M 6 4)) rfl (by omega) (k_aln hK (q := 104)  dX3_take_103 rfl (z := 15) rfl (k_gR hK (q := 107) (r := 1) dX3_take_104 rfl rf_X3_21 rfl rfl ?_)))))
      refine k_il hK (q := 109)  dX3_take_107 rfl (z := (n : Nat)) rfl (k_iln hK (q := 110)  dX3_take_109 rfl (z := pit) rfl ?_)
      refine k_iv2I hK (q := 113) dX3_take_110 rfl rm_X3_94 rfl rfl (Nat.le_of_ble_eq_true rfl) (t_mistake _ M (n : Nat) pit (by omega)) ?_
      have hw : 0 ≤ (if M 2 (n : Nat) = pit then 0 else M 6 0) ∧ (if M 2 (n : Nat) = pit then 0 else M 6 0) ≤ 1000 := by split <;> omega
      refine k_add hK (q := 114)  dX3_take_113 rfl (z := (le + (M 6 4)) + (if M 2 (n : Nat) = pit then 0 else M 6 0)) rfl (by omega) ?_
      refine k_iv3V hK (q := 117) dX3_take_114 rfl rm_X3_97 rfl rfl (Nat.le_of_ble_eq_true rfl) (xc_lower _ M row (n : Nat) ((le + (M 6 4)) + (if M 2 (n : Nat) = pit then 0 else M 6 0)) hrow (by omega)) ?_
      refine k_inc hK (q := 120)  dX3_take_117 rfl (y := (n : Nat) + 1) (L2 := [some (vR 15), some (vI row), some (vI pit), some (vI le), some (vI ((n : Nat) + 1)), none, none]) rfl rfl (by omega) rfl (k_goto hK (t := 76) dX3_take_120 rfl ?_)
      refine ih (n + 1) _ (by omega) (by rw [scC_fr (M := M) (frX_S (l := [16]) (frX_up (frX_refl _ _) _ _ (by decide)) (by decide))]; exact hs) (by omega) ?_ (offR_up ho (by omega)) (frX_up hf _ _ (by decide))
      rw [rv_lw, ht]
      simp only [tk1]
      rw [if_pos ((hth (n : Nat)).mpr (by omega))]
      unfold wr
      rw [← a6, ← a2]

set_option maxRecDepth 20000 in
set_option maxHeartbeats 2000000 in
theorem take_c {d : Nat} {Q : Option ra_V → ra_M → Prop} {K : Nat → ra_L → List ra_V → ra_M → Prop} (hK : ra_Clo (Ex (d + 1)) m_X3_take cX3_take Q K) {S : Sc} (hS : okSc S) {M0 : ra_M} {row pit le : Int} {t1 : Int → Int} (hrow : 0 ≤ row ∧ row ≤ 7320) (hr : ∀ j, pn S j → 0 ≤ M0 18 j ∧ M0 18 j ≤ NV)
    (hQ : ∀ (M : ra_M), rv M row = tk2 S (M0 18) pit (El S) t1 → offR row M0 M → frX [16] M0 M → Q none M) :
    ∀ (n i : Nat) (M : ra_M), i + n = (El S).length → scC M = S → NxL M (El S) → rv M row = tk2 S (M0 18) pit ((El S).take i) t1 → offR row M0 M → frX [16] M0 M → K 126 [some (vR 15), some (vI row), some (vI pit), some (vI le), some (vI (i : Nat)), none, none] [] M := by
  have hNV : NV = 1000000000 := rfl
  intro n
  induction n with
  | zero =>
    intro i M hi hs hn ht ho hf
    have en := hn.1
    have hl74 := El_len hS
    refine k_il hK (q := 128)  dX3_take_126 rfl (z := (i : Nat)) rfl (k_aln hK (q := 129)  dX3_take_128 rfl (z := 15) rfl (k_gR hK (q := 132) (r := 10) dX3_take_129 rfl rf_X3_25 rfl rfl (k_gI hK (q := 135) (z := M 10 5) 0 dX3_take_132 rfl rf_X3_67 rfl rfl rfl rfl ?_)))
    refine k_cge hK (q := 138) (t := 206) dX3_take_135 rfl rfl (fun h135 => ?_) (fun h135 => ?_)
    · refine k_vr hK dX3_take_206 rfl ?_
      have hi2 : (El S).take i = El S := List.take_of_length_le (by omega)
      rw [hi2] at ht
      exact hQ M ht ho hf
    · exact absurd h135 (by omega)
  | succ n ih =>
    intro i M hi hs hn ht ho hf
    have en := hn.1
    have hl74 := El_len hS
    have hs0 := hS.1
    obtain ⟨a2, a3, a4, a5, a6⟩ := scC_a hs
    have hc0 := hS.2.2.2.2.2.2.2.1 0 (by omega) (by omega)
    rw [← a6] at hc0
    have h18 : M 18 = M0 18 := hf 18 (by decide)
    obtain ⟨⟨x, y, w⟩, he⟩ : ∃ e : Eg, (El S)[i]? = some e := ⟨_, List.getElem?_eq_getElem (by omega)⟩
    obtain ⟨g11, g12, g13⟩ := hn.2 i _ he
    have hm := El_mem hS (List.mem_of_getElem? he)
    simp only at g11 g12 g13 hm
    have hrx := hr (x + 1) ⟨by omega, by omega⟩
    rw [← h18] at hrx
    refine k_il hK (q := 128)  dX3_take_126 rfl (z := (i : Nat)) rfl (k_aln hK (q := 129)  dX3_take_128 rfl (z := 15) rfl (k_gR hK (q := 132) (r := 10) dX3_take_129 rfl rf_X3_25 rfl rfl (k_gI hK (q := 135) (z := M 10 5) 0 dX3_take_132 rfl rf_X3_67 rfl rfl rfl rfl ?_)))
    refine k_cge hK (q := 138) (t := 206) dX3_take_135 rfl rfl (fun h135 => ?_) (fun h135 => ?_)
    · exact absurd h135 (by omega)
    · refine k_aln hK (q := 139)  dX3_take_138 rfl (z := 15) rfl (k_gR hK (q := 142) (r := 10) dX3_take_139 rfl rf_X3_25 rfl rfl (k_gR hK (q := 145) (r := 12) dX3_take_142 rfl rf_X3_79 rfl rfl (k_il hK (q := 147)  dX3_take_145 rfl (z := (i : Nat)) rfl (k_ald hK (q := 148)  dX3_take_147 rfl (y := M 12 (i : Nat)) rfl (by omega) rfl ?_))))
      rw [g12]
      refine k_is hK (q := 150)  dX3_take_148 rfl (L2 := [some (vR 15), some (vI row), some (vI pit), some (vI le), some (vI (i : Nat)), some (vI y), none]) (Nat.le_of_ble_eq_true rfl) rfl (k_aln hK (q := 151)  dX3_take_150 rfl (z := 15) rfl (k_gR hK (q := 154) (r := 18) dX3_take_151 rfl rf_X3_18 rfl rfl (k_aln hK (q := 155)  dX3_take_154 rfl (z := 15) rfl (k_gR hK (q := 158) (r := 10) dX3_take_155 rfl rf_X3_25 rfl rfl (k_gR hK (q := 161) (r := 11) dX3_take_158 rfl rf_X3_70 rfl rfl ?_)))))
      refine k_il hK (q := 163)  dX3_take_161 rfl (z := (i : Nat)) rfl (k_ald hK (q := 164)  dX3_take_163 rfl (y := M 11 (i : Nat)) rfl (by omega) rfl ?_)
      rw [g11]
      refine k_ic hK (q := 165)  dX3_take_164 rfl (by decide) (k_add hK (q := 166)  dX3_take_165 rfl (z := x + 1) rfl (by omega) (k_ald hK (q := 167)  dX3_take_166 rfl (y := M 18 (x + 1)) rfl (by omega) rfl (k_aln hK (q := 168)  dX3_take_167 rfl (z := 15) rfl (k_gR hK (q := 171) (r := 10) dX3_take_168 rfl rf_X3_25 rfl rfl (k_gR hK (q := 174) (r := 13) dX3_take_171 rfl rf_X3_73 rfl rfl ?_)))))
      refine k_il hK (q := 176)  dX3_take_174 rfl (z := (i : Nat)) rfl (k_ald hK (q := 177)  dX3_take_176 rfl (y := M 13 (i : Nat)) rfl (by omega) rfl ?_)
      rw [g13]
      refine k_add hK (q := 178)  dX3_take_177 rfl (z := (M 18 (x + 1)) + w) rfl (by omega) (k_is hK (q := 180)  dX3_take_178 rfl (L2 := [some (vR 15), some (vI row), some (vI pit), some (vI le), some (vI (i : Nat)), some (vI y), some (vI ((M 18 (x + 1)) + w))]) (Nat.le_of_ble_eq_true rfl) rfl (k_aln hK (q := 181)  dX3_take_180 rfl (z := 15) rfl (k_iln hK (q := 182)  dX3_take_181 rfl (z := row) rfl (k_il hK (q := 184)  dX3_take_182 rfl (z := y) rfl (k_il hK (q := 186)  dX3_take_184 rfl (z := ((M 18 (x + 1)) + w)) rfl ?_)))))
      refine k_aln hK (q := 187)  dX3_take_186 rfl (z := 15) rfl (k_gR hK (q := 190) (r := 1) dX3_take_187 rfl rf_X3_21 rfl rfl (k_il hK (q := 192)  dX3_take_190 rfl (z := y) rfl (k_iln hK (q := 193)  dX3_take_192 rfl (z := pit) rfl ?_)))
      refine k_iv2I hK (q := 196) dX3_take_193 rfl rm_X3_94 rfl rfl (Nat.le_of_ble_eq_true rfl) (t_mistake _ M y pit (by omega)) ?_
      have hw : 0 ≤ (if M 2 y = pit then 0 else M 6 0) ∧ (if M 2 y = pit then 0 else M 6 0) ≤ 1000 := by split <;> omega
      refine k_add hK (q := 197)  dX3_take_196 rfl (z := ((M 18 (x + 1)) + w) + (if M 2 y = pit then 0 else M 6 0)) rfl (by omega) ?_
      refine k_iv3V hK (q := 200) dX3_take_197 rfl rm_X3_97 rfl rfl (Nat.le_of_ble_eq_true rfl) (xc_lower _ M row y (((M 18 (x + 1)) + w) + (if M 2 y = pit then 0 else M 6 0)) hrow (by omega)) ?_
      refine k_inc hK (q := 203)  dX3_take_200 rfl (y := (i : Nat) + 1) (L2 := [some (vR 15), some (vI row), some (vI pit), some (vI le), some (vI ((i : Nat) + 1)), some (vI y), some (vI ((M 18 (x + 1)) + w))]) rfl rfl (by omega) rfl (k_goto hK (t := 126) dX3_take_203 rfl ?_)
      refine k_weak hK (L2 := [some (vR 15), some (vI row), some (vI pit), some (vI le), some (vI ((i : Nat) + 1)), none, none]) ⟨Or.inl rfl, Or.inl rfl, Or.inl rfl, Or.inl rfl, Or.inl rfl, Or.inr rfl, Or.inr rfl, trivial⟩ ?_
      have hfu : frX [16] M (up M 16 (row + y + 1) (min (M 16 (row + y + 1)) (((M 18 (x + 1)) + w) + (if M 2 y = pit then 0 else M 6 0)))) := frX_up (frX_refl _ _) _ _ (by decide)
      refine ih (i + 1) _ (by omega) (by rw [scC_fr (M := M) (frX_S hfu (by decide))]; exact hs) (NxL_fr hn (hfu 10 (by decide)) (hfu 11 (by decide)) (hfu 12 (by decide)) (hfu 13 (by decide))) ?_ (offR_up ho (by omega)) (frX_up hf _ _ (by decide))
      rw [rv_lw, ht, tk2_take he]
      simp only
      unfold wr
      rw [← a6, ← a2, h18]

set_option maxRecDepth 20000 in
set_option maxHeartbeats 2000000 in
theorem xc_take (d : Nat) (M : ra_M) (row pit : Int) (S : Sc) (hs : scC M = S) (hS : okSc S) (hn : NxL M (El S)) (hrow : 0 ≤ row ∧ row ≤ 7320) (hr : ∀ j, pn S j → 0 ≤ M 18 j ∧ M 18 j ≤ NV) : Ex (d + 2) m_X3_take [vR 15, vI row, vI pit] M (fun r M2 => r = none ∧ (∀ j, pn S j → M2 16 (row + j) = fwdT S (M 18) pit j) ∧ offR row M M2 ∧ frX [16] M M2) := by
  refine Ex_call (Nat.le_of_ble_eq_true rfl) (fun K hK => ?_)
  show K 0 [some (vR 15), some (vI row), some (vI pit), none, none, none, none] [] M
  have hK : ra_Clo _ m_X3_take cX3_take _ K := hK
  have hNV : NV = 1000000000 := rfl
  have hs0 := hS.1
  have hs2 := hS.2.2.1
  obtain ⟨LE, hLEe⟩ : ∃ z, z = least (M 18) ((S 0 0).toNat + 1) := ⟨_, rfl⟩
  have hLE : 0 ≤ LE ∧ LE ≤ NV := by
    rw [hLEe]
    refine ⟨?_, (least_le _ _).1⟩
    have key : ∀ n : Nat, n ≤ (S 0 0).toNat + 1 → 0 ≤ least (M 18) n := by
      intro n
      induction n with
      | zero => intro _; simp [least]
      | succ n ih => intro h; have := ih (by omega); have := hr (n : Nat) ⟨by omega, by omega⟩; simp only [least]; omega
    exact key _ (Nat.le_refl _)
  obtain ⟨fi, hfie⟩ : ∃ z, z = (if S 0 2 ≠ -1 then S 0 2 else 0) := ⟨_, rfl⟩
  obtain ⟨la, hla⟩ : ∃ z, z = (if S 0 2 ≠ -1 then S 0 3 else S 0 0 - 1) := ⟨_, rfl⟩
  have hth : ∀ n : Int, thr S n ↔ fi ≤ n ∧ n ≤ la := by
    intro n
    have := thr_C hs hS n
    obtain ⟨e5, e6, e7, e8, e9⟩ := scC_e hs
    rw [e5, e7, e8, ← hfie, ← hla] at this
    exact this.symm
  have hfl : 0 ≤ fi ∧ fi ≤ la + 1 ∧ la < S 0 0 := by
    split at hfie <;> split at hla <;> omega
  have J123 : ∀ (MA : ra_M), (∀ t : Nat, t ≤ (S 0 0).toNat → MA 16 (row + (t : Nat)) = tk0 S (M 18) (t : Nat)) → ∀ (M1 : ra_M), scC M1 = S → rv M1 row = tk1 S (rv MA row) (LE + S 5 4) pit (S 0 0).toNat → offR row M M1 → frX [16] M M1 → ∀ z, K 123 [some (vR 15), some (vI row), some (vI pit), some (vI LE), some (vI z), none, none] [] M1 := by
    intro MA hcA M1 hs1 ht1 ho1 hf1 z
    have hLEe2 := hLEe
    refine k_ic hK (q := 124)  dX3_take_123 rfl (by decide) (k_is hK (q := 126)  dX3_take_124 rfl (L2 := [some (vR 15), some (vI row), some (vI pit), some (vI LE), some (vI 0), none, none]) (Nat.le_of_ble_eq_true rfl) rfl ?_)
    refine take_c hK hS (M0 := M) (le := LE) (t1 := tk1 S (rv MA row) (LE + S 5 4) pit (S 0 0).toNat) hrow hr (fun M2 h1 h2 h3 => ⟨rfl, fun j hj => ?_, h2, h3⟩) (El S).length 0 M1 (by omega) hs1 (NxL_fr hn (hf1 10 (by decide)) (hf1 11 (by decide)) (hf1 12 (by decide)) (hf1 13 (by decide))) ht1 ho1 hf1
    have h9 : rv M2 row j = _ := congrFun h1 j
    unfold rv at h9
    rw [h9]
    unfold fwdT
    rw [← hLEe2]
    exact tk2_congP (P := pn S) (El S) (fun e he => (El_pn hS e he).1) (fun _ _ => rfl) _ _ (tk1_congP _ _ (fun j hj => by have := hcA j.toNat (by omega); rw [show ((j.toNat : Nat) : Int) = j by omega] at this; exact this) _) j hj
  have J67 : ∀ (MA : ra_M), scC MA = S → (∀ t : Nat, t ≤ (S 0 0).toNat → MA 16 (row + (t : Nat)) = tk0 S (M 18) (t : Nat)) → offR row M MA → frX [16] M MA → ∀ z, K 67 [some (vR 15), some (vI row), some (vI pit), some (vI LE), some (vI z), none, none] [] MA := by
    intro MA hsA hcA hoA hfA z
    refine k_aln hK (q := 68)  dX3_take_67 rfl (z := 15) rfl (k_gR hK (q := 71) (r := 1) dX3_take_68 rfl rf_X3_21 rfl rfl ?_)
    refine k_iv0I hK (q := 74) dX3_take_71 rfl rm_X3_87 rfl rfl (Nat.le_of_ble_eq_true rfl) (t_firstThere _ MA) ?_
    obtain ⟨f5, f6, f7, f8, f9⟩ := scC_e hsA
    have hfi : (if MA 1 7 ≠ -1 then MA 1 7 else 0) = ((fi.toNat : Nat) : Int) := by rw [f7]; omega
    rw [hfi]
    refine k_is hK (q := 76)  dX3_take_74 rfl (L2 := [some (vR 15), some (vI row), some (vI pit), some (vI LE), some (vI (fi.toNat : Nat)), none, none]) (Nat.le_of_ble_eq_true rfl) rfl ?_
    exact take_b hK hS (M0 := M) (le := LE) (fi := fi) (la := la) (t0 := rv MA row) hrow hLE hth (by omega) hla (J123 MA hcA) (la + 1 - fi).toNat fi.toNat MA (by omega) hsA (by omega) (tk1_none _ (fun i hi q => by have := (hth (i : Nat)).mp q; omega)).symm hoA hfA
  refine k_ldc hK (q := 2)  dX3_take_0 rfl rc_X3_33 (k_isn hK (q := 3)  dX3_take_2 rfl (L2 := [some (vR 15), some (vI row), some (vI pit), some (vI 1000000000), none, none, none]) (Nat.le_of_ble_eq_true rfl) rfl (k_ic hK (q := 4)  dX3_take_3 rfl (by decide) (k_is hK (q := 6)  dX3_take_4 rfl (L2 := [some (vR 15), some (vI row), some (vI pit), some (vI 1000000000), some (vI 0), none, none]) (Nat.le_of_ble_eq_true rfl) rfl ?_)))
  rw [hLEe] at J67
  exact take_a hK hS hrow hr J67 ((S 0 0).toNat + 1) 0 M NV (by omega) hs rfl (fun t ht => by omega) (fun z hz => rfl) (frX_refl _ _)
