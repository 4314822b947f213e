/-! taking an EVENT, in the class -/
theorem v_lw (M : ra_M) (n s : Int) : up M 16 (n + 1) (min (M 16 (n + 1)) s) 16 = lw (M 16) (n + 1) s := by
  funext j
  unfold lw
  by_cases h : j = n + 1
  · subst h
    rw [if_pos rfl, up_same]
  · rw [if_neg h, up_j _ _ (by omega)]
theorem tk1_none {S : Sc} {t : Int → Int} {v pit : Int} : ∀ n : Nat, (∀ i : Nat, i < n → ¬ thr S (i : Nat)) → tk1 S t v pit n = t := by
  intro n
  induction n with
  | zero => intro _; rfl
  | succ n ih => intro h; simp only [tk1]; rw [if_neg (h n (by omega)), ih (fun i hi => h i (by omega))]
theorem tk1_more {S : Sc} {t : Int → Int} {v pit : Int} {n m : Nat} (h : n ≤ m) (hn : ∀ i : Nat, n ≤ i → i < m → ¬ thr S (i : Nat)) : tk1 S t v pit m = tk1 S t v pit n := by
  induction h with
  | refl => rfl
  | step hm ih =>
    rename_i m
    simp only [tk1]
    rw [if_neg (hn m hm (by omega)), ih (fun i h1 h2 => hn i h1 (by omega))]

set_option maxRecDepth 20000 in
set_option maxHeartbeats 2000000 in
theorem xc_lower (d : Nat) (M : ra_M) (p v : Int) (hp : -1 ≤ p ∧ p < 60) : Ex (d + 1) m_X3_lower [vR 15, vI p, vI v] M (fun r M2 => r = none ∧ M2 = up M 16 (p + 1) (min (M 16 (p + 1)) v)) := by
  refine Ex_call (Nat.le_of_ble_eq_true rfl) (fun K hK => ?_)
  show K 0 [some (vR 15), some (vI p), some (vI v)] [] M
  have hK : ra_Clo _ m_X3_lower cX3_lower _ K := hK
  refine k_aln hK (q := 1)  dX3_lower_0 rfl (z := 15) rfl (k_gR hK (q := 4) (r := 16) dX3_lower_1 rfl rf_X3_9 rfl rfl (k_iln hK (q := 5)  dX3_lower_4 rfl (z := p) rfl (k_ic hK (q := 6)  dX3_lower_5 rfl (by decide) (k_add hK (q := 7)  dX3_lower_6 rfl (z := p + 1) rfl (by omega) (k_aln hK (q := 8)  dX3_lower_7 rfl (z := 15) rfl ?_)))))
  refine k_gR hK (q := 11) (r := 16) dX3_lower_8 rfl rf_X3_9 rfl rfl (k_iln hK (q := 12)  dX3_lower_11 rfl (z := p) rfl (k_ic hK (q := 13)  dX3_lower_12 rfl (by decide) (k_add hK (q := 14)  dX3_lower_13 rfl (z := p + 1) rfl (by omega) (k_ald hK (q := 15)  dX3_lower_14 rfl (y := M 16 (p + 1)) rfl (by omega) rfl (k_iln hK (q := 16)  dX3_lower_15 rfl (z := v) rfl ?_)))))
  refine k_st2I hK (q := 19) dX3_lower_16 rfl rm_X3_83 (Nat.le_of_ble_eq_true rfl) (t_min _ M (M 16 (p + 1)) v) ?_
  refine k_ast hK (q := 20)  dX3_lower_19 rfl rfl (by omega) ?_
  refine k_vr hK dX3_lower_20 rfl ?_
  exact ⟨rfl, rfl⟩

set_option maxRecDepth 20000 in
set_option maxHeartbeats 2000000 in
theorem take_a {d : Nat} {Q : Option ra_V → ra_M → Prop} {K : Nat → ra_L → List ra_V → ra_M → Prop} (hK : ra_Clo (Ex d) m_X3_take cX3_take Q K) {S : Sc} (hS : okSc S) {M0 : ra_M} {pit : Int} (hr : ∀ j, pn S j → 0 ≤ M0 17 j ∧ M0 17 j ≤ NV)
    (hX : ∀ (M : ra_M), scC M = S → (∀ t : Nat, t ≤ (S 0 0).toNat → M 16 (t : Nat) = tk0 S (M0 17) (t : Nat)) → frX [16] M0 M → ∀ z, K 60 [some (vR 15), some (vI pit), some (vI (least (M0 17) ((S 0 0).toNat + 1))), some (vI z), none, none] [] M) :
    ∀ (n i : Nat) (M : ra_M) (le : Int), i + n = (S 0 0).toNat + 1 → scC M = S → le = least (M0 17) i → (∀ t : Nat, t < i → M 16 (t : Nat) = tk0 S (M0 17) (t : Nat)) → frX [16] M0 M → K 5 [some (vR 15), some (vI pit), some (vI le), some (vI (i : Nat)), none, none] [] M := by
  have hNV : NV = 1000000000 := rfl
  intro n
  induction n with
  | zero =>
    intro i M le hi hs hle hc hf
    obtain ⟨e5, e6, e7, e8, e9⟩ := scC_e hs
    have hs0 := hS.1
    refine k_iln hK (q := 6)  dX3_take_5 rfl (z := (i : Nat)) rfl (k_aln hK (q := 7)  dX3_take_6 rfl (z := 15) rfl (k_gR hK (q := 10) (r := 1) dX3_take_7 rfl rf_X3_18 rfl rfl (k_gI hK (q := 13) (z := M 1 5) 0 dX3_take_10 rfl rf_X3_57 rfl rfl rfl rfl ?_)))
    refine k_cgt hK (q := 16) (t := 60) dX3_take_13 rfl rfl (fun h13 => ?_) (fun h13 => ?_)
    · have hi2 : i = (S 0 0).toNat + 1 := by omega
      subst hi2
      subst hle
      exact hX M hs (fun t ht => hc t (by omega)) hf _
    · exact absurd h13 (by omega)
  | succ n ih =>
    intro i M le hi hs hle hc hf
    obtain ⟨e5, e6, e7, e8, e9⟩ := scC_e hs
    obtain ⟨a2, a3, a4, a5, a6⟩ := scC_a hs
    have hs0 := hS.1
    have hc1 := hS.2.2.2.2.2.2.2.1 1 (by omega) (by omega)
    rw [← a6] at hc1
    have h18 : M 17 = M0 17 := hf 17 (by decide)
    have hri := hr (i : Nat) ⟨by omega, by omega⟩
    rw [← h18] at hri
    refine k_iln hK (q := 6)  dX3_take_5 rfl (z := (i : Nat)) rfl (k_aln hK (q := 7)  dX3_take_6 rfl (z := 15) rfl (k_gR hK (q := 10) (r := 1) dX3_take_7 rfl rf_X3_18 rfl rfl (k_gI hK (q := 13) (z := M 1 5) 0 dX3_take_10 rfl rf_X3_57 rfl rfl rfl rfl ?_)))
    refine k_cgt hK (q := 16) (t := 60) dX3_take_13 rfl rfl (fun h13 => ?_) (fun h13 => ?_)
    · exact absurd h13 (by omega)
    · refine k_iln hK (q := 17)  dX3_take_16 rfl (z := le) rfl (k_aln hK (q := 18)  dX3_take_17 rfl (z := 15) rfl (k_gR hK (q := 21) (r := 17) dX3_take_18 rfl rf_X3_15 rfl rfl (k_iln hK (q := 22)  dX3_take_21 rfl (z := (i : Nat)) rfl (k_ald hK (q := 23)  dX3_take_22 rfl (y := M 17 (i : Nat)) rfl (by omega) rfl ?_))))
      refine k_st2I hK (q := 26) dX3_take_23 rfl rm_X3_83 (Nat.le_of_ble_eq_true rfl) (t_min _ M le (M 17 (i : Nat))) ?_
      refine k_isn hK (q := 27)  dX3_take_26 rfl (L2 := [some (vR 15), some (vI pit), some (vI (min le (M 17 (i : Nat)))), some (vI (i : Nat)), none, none]) (Nat.le_of_ble_eq_true rfl) rfl (k_aln hK (q := 28)  dX3_take_27 rfl (z := 15) rfl (k_gR hK (q := 31) (r := 16) dX3_take_28 rfl rf_X3_9 rfl rfl (k_iln hK (q := 32)  dX3_take_31 rfl (z := (i : Nat)) rfl (k_ldc hK (q := 34)  dX3_take_32 rfl rc_X3_33 (k_aln hK (q := 35)  dX3_take_34 rfl (z := 15) rfl ?_)))))
      refine k_gR hK (q := 38) (r := 17) dX3_take_35 rfl rf_X3_15 rfl rfl (k_iln hK (q := 39)  dX3_take_38 rfl (z := (i : Nat)) rfl (k_ald hK (q := 40)  dX3_take_39 rfl (y := M 17 (i : Nat)) rfl (by omega) rfl (k_aln hK (q := 41)  dX3_take_40 rfl (z := 15) rfl (k_gR hK (q := 44) (r := 1) dX3_take_41 rfl rf_X3_18 rfl rfl (k_gR hK (q := 47) (r := 6) dX3_take_44 rfl rf_X3_77 rfl rfl ?_)))))
      refine k_ic hK (q := 48)  dX3_take_47 rfl (by decide) (k_ald hK (q := 49)  dX3_take_48 rfl (y := M 6 1) rfl (by omega) rfl (k_add hK (q := 50)  dX3_take_49 rfl (z := (M 17 (i : Nat)) + (M 6 1)) rfl (by omega) ?_))
      refine k_st2I hK (q := 53) dX3_take_50 rfl rm_X3_83 (Nat.le_of_ble_eq_true rfl) (t_min _ M 1000000000 ((M 17 (i : Nat)) + (M 6 1))) ?_
      refine k_ast hK (q := 54)  dX3_take_53 rfl rfl (by omega) (k_inc hK (q := 57)  dX3_take_54 rfl (y := (i : Nat) + 1) (L2 := [some (vR 15), some (vI pit), some (vI (min le (M 17 (i : Nat)))), some (vI ((i : Nat) + 1)), none, none]) rfl rfl (by omega) rfl (k_goto hK (t := 5) dX3_take_57 rfl ?_))
      refine ih (i + 1) _ _ (by omega) (by rw [scC_fr (M := M) (frX_S (l := [16]) (frX_up (frX_refl _ _) _ _ (by decide)) (by decide))]; exact hs) (by rw [hle, h18]; rfl) (fun t ht => ?_) (frX_up hf _ _ (by decide))
      by_cases h : t = i
      · subst h
        rw [up_same]
        unfold tk0
        rw [← a6, h18]
      · rw [up_j _ _ (by omega)]
        exact hc t (by omega)

set_option maxRecDepth 20000 in
set_option maxHeartbeats 2000000 in
theorem take_b {d : Nat} {Q : Option ra_V → ra_M → Prop} {K : Nat → ra_L → List ra_V → ra_M → Prop} (hK : ra_Clo (Ex (d + 1)) m_X3_take cX3_take Q K) {S : Sc} (hS : okSc S) {M0 : ra_M} {pit le fi la : Int} {t0 : Int → Int} (hle : 0 ≤ le ∧ le ≤ NV) (hth : ∀ n : Int, thr S n ↔ fi ≤ n ∧ n ≤ la) (hfl : 0 ≤ fi ∧ fi ≤ la + 1 ∧ la < S 0 0) (hlaS : la = (if S 0 2 ≠ -1 then S 0 3 else S 0 0 - 1))
    (hX : ∀ (M : ra_M), scC M = S → M 16 = tk1 S t0 (le + S 5 4) pit (S 0 0).toNat → frX [16] M0 M → ∀ z, K 111 [some (vR 15), some (vI pit), some (vI le), some (vI z), none, none] [] M) :
    ∀ (m n : Nat) (M : ra_M), (n : Int) + m = la + 1 → scC M = S → fi ≤ (n : Int) → M 16 = tk1 S t0 (le + S 5 4) pit n → frX [16] M0 M → K 68 [some (vR 15), some (vI pit), some (vI le), some (vI (n : Nat)), none, none] [] M := by
  have hNV : NV = 1000000000 := rfl
  intro m
  induction m with
  | zero =>
    intro n M hi hs hfi ht hf
    obtain ⟨e5, e6, e7, e8, e9⟩ := scC_e hs
    have hs0 := hS.1
    have hla : (if M 1 7 ≠ -1 then M 1 8 else M 1 5 - 1) = la := by rw [e5, e7, e8, hlaS]
    refine k_iln hK (q := 69)  dX3_take_68 rfl (z := (n : Nat)) rfl (k_aln hK (q := 70)  dX3_take_69 rfl (z := 15) rfl (k_gR hK (q := 73) (r := 1) dX3_take_70 rfl rf_X3_18 rfl rfl ?_))
    refine k_iv0I hK (q := 76) dX3_take_73 rfl rm_X3_93 rfl rfl (Nat.le_of_ble_eq_true rfl) (t_lastThere _ M (by omega)) ?_
    rw [hla]
    refine k_cgt hK (q := 79) (t := 111) dX3_take_76 rfl rfl (fun h76 => ?_) (fun h76 => ?_)
    · exact hX M hs (by rw [ht, tk1_more (n := n) (m := (S 0 0).toNat) (by omega) (fun i h1 h2 q => by have := (hth (i : Nat)).mp q; omega)]) hf _
    · exact absurd h76 (by omega)
  | succ m ih =>
    intro n M hi hs hfi ht hf
    obtain ⟨e5, e6, e7, e8, e9⟩ := scC_e hs
    obtain ⟨a2, a3, a4, a5, a6⟩ := scC_a hs
    have hs0 := hS.1
    have hla : (if M 1 7 ≠ -1 then M 1 8 else M 1 5 - 1) = la := by rw [e5, e7, e8, hlaS]
    have hc4 := hS.2.2.2.2.2.2.2.1 4 (by omega) (by omega)
    have hc0 := hS.2.2.2.2.2.2.2.1 0 (by omega) (by omega)
    rw [← a6] at hc4 hc0
    refine k_iln hK (q := 69)  dX3_take_68 rfl (z := (n : Nat)) rfl (k_aln hK (q := 70)  dX3_take_69 rfl (z := 15) rfl (k_gR hK (q := 73) (r := 1) dX3_take_70 rfl rf_X3_18 rfl rfl ?_))
    refine k_iv0I hK (q := 76) dX3_take_73 rfl rm_X3_93 rfl rfl (Nat.le_of_ble_eq_true rfl) (t_lastThere _ M (by omega)) ?_
    rw [hla]
    refine k_cgt hK (q := 79) (t := 111) dX3_take_76 rfl rfl (fun h76 => ?_) (fun h76 => ?_)
    · exact absurd h76 (by omega)
    · refine k_aln hK (q := 80)  dX3_take_79 rfl (z := 15) rfl (k_iln hK (q := 81)  dX3_take_80 rfl (z := (n : Nat)) rfl (k_iln hK (q := 82)  dX3_take_81 rfl (z := le) rfl (k_aln hK (q := 83)  dX3_take_82 rfl (z := 15) rfl (k_gR hK (q := 86) (r := 1) dX3_take_83 rfl rf_X3_18 rfl rfl (k_gR hK (q := 89) (r := 6) dX3_take_86 rfl rf_X3_77 rfl rfl ?_)))))
      refine k_ic hK (q := 90)  dX3_take_89 rfl (by decide) (k_ald hK (q := 91)  dX3_take_90 rfl (y := M 6 4) rfl (by omega) rfl (k_add hK (q := 92)  dX3_take_91 rfl (z := le + (M 6 4)) rfl (by omega) (k_aln hK (q := 93)  dX3_take_92 rfl (z := 15) rfl (k_gR hK (q := 96) (r := 1) dX3_take_93 rfl rf_X3_18 rfl rfl (k_iln hK (q := 97)  dX3_take_96 rfl (z := (n : Nat)) rfl ?_)))))
      refine k_iln hK (q := 98)  dX3_take_97 rfl (z := pit) rfl ?_
      refine k_iv2I hK (q := 101) dX3_take_98 rfl rm_X3_96 rfl rfl (Nat.le_of_ble_eq_true rfl) (t_mistake _ M (n : Nat) pit (by omega)) ?_
      have hw : 0 ≤ (if M 2 (n : Nat) = pit then 0 else M 6 0) ∧ (if M 2 (n : Nat) = pit then 0 else M 6 0) ≤ 1000 := by split <;> omega
      refine k_add hK (q := 102)  dX3_take_101 rfl (z := (le + (M 6 4)) + (if M 2 (n : Nat) = pit then 0 else M 6 0)) rfl (by omega) ?_
      refine k_iv2V hK (q := 105) dX3_take_102 rfl rm_X3_99 rfl rfl (Nat.le_of_ble_eq_true rfl) (xc_lower _ M (n : Nat) ((le + (M 6 4)) + (if M 2 (n : Nat) = pit then 0 else M 6 0)) (by omega)) ?_
      refine k_inc hK (q := 108)  dX3_take_105 rfl (y := (n : Nat) + 1) (L2 := [some (vR 15), some (vI pit), some (vI le), some (vI ((n : Nat) + 1)), none, none]) rfl rfl (by omega) rfl (k_goto hK (t := 68) dX3_take_108 rfl ?_)
      refine ih (n + 1) _ (by omega) (by rw [scC_fr (M := M) (frX_S (l := [16]) (frX_up (frX_refl _ _) _ _ (by decide)) (by decide))]; exact hs) (by omega) ?_ (frX_up hf _ _ (by decide))
      rw [v_lw, ht]
      simp only [tk1]
      rw [if_pos ((hth (n : Nat)).mpr (by omega))]
      unfold wr
      rw [← a6, ← a2]

set_option maxRecDepth 20000 in
set_option maxHeartbeats 2000000 in
theorem take_c {d : Nat} {Q : Option ra_V → ra_M → Prop} {K : Nat → ra_L → List ra_V → ra_M → Prop} (hK : ra_Clo (Ex (d + 1)) m_X3_take cX3_take Q K) {S : Sc} (hS : okSc S) {M0 : ra_M} {pit le : Int} {t1 : Int → Int} (hr : ∀ j, pn S j → 0 ≤ M0 17 j ∧ M0 17 j ≤ NV)
    (hQ : ∀ (M : ra_M), M 16 = tk2 S (M0 17) pit (El S) t1 → frX [16] M0 M → Q none M) :
    ∀ (n i : Nat) (M : ra_M), i + n = (El S).length → scC M = S → NxL M (El S) → M 16 = tk2 S (M0 17) pit ((El S).take i) t1 → frX [16] M0 M → K 113 [some (vR 15), some (vI pit), some (vI le), some (vI (i : Nat)), none, none] [] M := by
  have hNV : NV = 1000000000 := rfl
  intro n
  induction n with
  | zero =>
    intro i M hi hs hn ht hf
    have en := hn.1
    have hl74 := El_len hS
    refine k_iln hK (q := 114)  dX3_take_113 rfl (z := (i : Nat)) rfl (k_aln hK (q := 115)  dX3_take_114 rfl (z := 15) rfl (k_gR hK (q := 118) (r := 10) dX3_take_115 rfl rf_X3_22 rfl rfl (k_gI hK (q := 121) (z := M 10 5) 0 dX3_take_118 rfl rf_X3_66 rfl rfl rfl rfl ?_)))
    refine k_cge hK (q := 124) (t := 188) dX3_take_121 rfl rfl (fun h121 => ?_) (fun h121 => ?_)
    · refine k_vr hK dX3_take_188 rfl ?_
      have hi2 : (El S).take i = El S := List.take_of_length_le (by omega)
      rw [hi2] at ht
      exact hQ M ht hf
    · exact absurd h121 (by omega)
  | succ n ih =>
    intro i M hi hs hn ht hf
    have en := hn.1
    have hl74 := El_len hS
    have hs0 := hS.1
    obtain ⟨a2, a3, a4, a5, a6⟩ := scC_a hs
    have hc0 := hS.2.2.2.2.2.2.2.1 0 (by omega) (by omega)
    rw [← a6] at hc0
    have h18 : M 17 = M0 17 := hf 17 (by decide)
    obtain ⟨⟨x, y, w⟩, he⟩ : ∃ e : Eg, (El S)[i]? = some e := ⟨_, List.getElem?_eq_getElem (by omega)⟩
    obtain ⟨g11, g12, g13⟩ := hn.2 i _ he
    have hm := El_mem hS (List.mem_of_getElem? he)
    simp only at g11 g12 g13 hm
    have hrx := hr (x + 1) ⟨by omega, by omega⟩
    rw [← h18] at hrx
    refine k_iln hK (q := 114)  dX3_take_113 rfl (z := (i : Nat)) rfl (k_aln hK (q := 115)  dX3_take_114 rfl (z := 15) rfl (k_gR hK (q := 118) (r := 10) dX3_take_115 rfl rf_X3_22 rfl rfl (k_gI hK (q := 121) (z := M 10 5) 0 dX3_take_118 rfl rf_X3_66 rfl rfl rfl rfl ?_)))
    refine k_cge hK (q := 124) (t := 188) dX3_take_121 rfl rfl (fun h121 => ?_) (fun h121 => ?_)
    · exact absurd h121 (by omega)
    · refine k_aln hK (q := 125)  dX3_take_124 rfl (z := 15) rfl (k_gR hK (q := 128) (r := 10) dX3_take_125 rfl rf_X3_22 rfl rfl (k_gR hK (q := 131) (r := 12) dX3_take_128 rfl rf_X3_80 rfl rfl (k_iln hK (q := 132)  dX3_take_131 rfl (z := (i : Nat)) rfl (k_ald hK (q := 133)  dX3_take_132 rfl (y := M 12 (i : Nat)) rfl (by omega) rfl ?_))))
      rw [g12]
      refine k_is hK (q := 135)  dX3_take_133 rfl (L2 := [some (vR 15), some (vI pit), some (vI le), some (vI (i : Nat)), some (vI y), none]) (Nat.le_of_ble_eq_true rfl) rfl (k_aln hK (q := 136)  dX3_take_135 rfl (z := 15) rfl (k_gR hK (q := 139) (r := 17) dX3_take_136 rfl rf_X3_15 rfl rfl (k_aln hK (q := 140)  dX3_take_139 rfl (z := 15) rfl (k_gR hK (q := 143) (r := 10) dX3_take_140 rfl rf_X3_22 rfl rfl (k_gR hK (q := 146) (r := 11) dX3_take_143 rfl rf_X3_71 rfl rfl ?_)))))
      refine k_iln hK (q := 147)  dX3_take_146 rfl (z := (i : Nat)) rfl (k_ald hK (q := 148)  dX3_take_147 rfl (y := M 11 (i : Nat)) rfl (by omega) rfl ?_)
      rw [g11]
      refine k_ic hK (q := 149)  dX3_take_148 rfl (by decide) (k_add hK (q := 150)  dX3_take_149 rfl (z := x + 1) rfl (by omega) (k_ald hK (q := 151)  dX3_take_150 rfl (y := M 17 (x + 1)) rfl (by omega) rfl (k_aln hK (q := 152)  dX3_take_151 rfl (z := 15) rfl (k_gR hK (q := 155) (r := 10) dX3_take_152 rfl rf_X3_22 rfl rfl (k_gR hK (q := 158) (r := 13) dX3_take_155 rfl rf_X3_74 rfl rfl ?_)))))
      refine k_iln hK (q := 159)  dX3_take_158 rfl (z := (i : Nat)) rfl (k_ald hK (q := 160)  dX3_take_159 rfl (y := M 13 (i : Nat)) rfl (by omega) rfl ?_)
      rw [g13]
      refine k_add hK (q := 161)  dX3_take_160 rfl (z := (M 17 (x + 1)) + w) rfl (by omega) (k_is hK (q := 163)  dX3_take_161 rfl (L2 := [some (vR 15), some (vI pit), some (vI le), some (vI (i : Nat)), some (vI y), some (vI ((M 17 (x + 1)) + w))]) (Nat.le_of_ble_eq_true rfl) rfl (k_aln hK (q := 164)  dX3_take_163 rfl (z := 15) rfl (k_il hK (q := 166)  dX3_take_164 rfl (z := y) rfl (k_il hK (q := 168)  dX3_take_166 rfl (z := ((M 17 (x + 1)) + w)) rfl (k_aln hK (q := 169)  dX3_take_168 rfl (z := 15) rfl ?_)))))
      refine k_gR hK (q := 172) (r := 1) dX3_take_169 rfl rf_X3_18 rfl rfl (k_il hK (q := 174)  dX3_take_172 rfl (z := y) rfl (k_iln hK (q := 175)  dX3_take_174 rfl (z := pit) rfl ?_))
      refine k_iv2I hK (q := 178) dX3_take_175 rfl rm_X3_96 rfl rfl (Nat.le_of_ble_eq_true rfl) (t_mistake _ M y pit (by omega)) ?_
      have hw : 0 ≤ (if M 2 y = pit then 0 else M 6 0) ∧ (if M 2 y = pit then 0 else M 6 0) ≤ 1000 := by split <;> omega
      refine k_add hK (q := 179)  dX3_take_178 rfl (z := ((M 17 (x + 1)) + w) + (if M 2 y = pit then 0 else M 6 0)) rfl (by omega) ?_
      refine k_iv2V hK (q := 182) dX3_take_179 rfl rm_X3_99 rfl rfl (Nat.le_of_ble_eq_true rfl) (xc_lower _ M y (((M 17 (x + 1)) + w) + (if M 2 y = pit then 0 else M 6 0)) (by omega)) ?_
      refine k_inc hK (q := 185)  dX3_take_182 rfl (y := (i : Nat) + 1) (L2 := [some (vR 15), some (vI pit), some (vI le), some (vI ((i : Nat) + 1)), some (vI y), some (vI ((M 17 (x + 1)) + w))]) rfl rfl (by omega) rfl (k_goto hK (t := 113) dX3_take_185 rfl ?_)
      refine k_weak hK (L2 := [some (vR 15), some (vI pit), some (vI le), some (vI ((i : Nat) + 1)), none, none]) ⟨Or.inl rfl, Or.inl rfl, Or.inl rfl, Or.inl rfl, Or.inr rfl, Or.inr rfl, trivial⟩ ?_
      have hfu : frX [16] M (up M 16 (y + 1) (min (M 16 (y + 1)) (((M 17 (x + 1)) + w) + (if M 2 y = pit then 0 else M 6 0)))) := frX_up (frX_refl _ _) _ _ (by decide)
      refine ih (i + 1) _ (by omega) (by rw [scC_fr (M := M) (frX_S hfu (by decide))]; exact hs) (NxL_fr hn (hfu 10 (by decide)) (hfu 11 (by decide)) (hfu 12 (by decide)) (hfu 13 (by decide))) ?_ (frX_up hf _ _ (by decide))
      rw [v_lw, ht, tk2_take he]
      simp only
      unfold wr
      rw [← a6, ← a2, h18]

set_option maxRecDepth 20000 in
set_option maxHeartbeats 2000000 in
theorem xc_take (d : Nat) (M : ra_M) (pit : Int) (S : Sc) (hs : scC M = S) (hS : okSc S) (hn : NxL M (El S)) (hr : ∀ j, pn S j → 0 ≤ M 17 j ∧ M 17 j ≤ NV) : Ex (d + 2) m_X3_take [vR 15, vI pit] M (fun r M2 => r = none ∧ (∀ j, pn S j → M2 16 j = fwdT S (M 17) pit j) ∧ frX [16] M M2) := by
  refine Ex_call (Nat.le_of_ble_eq_true rfl) (fun K hK => ?_)
  show K 0 [some (vR 15), some (vI pit), none, none, none, none] [] M
  have hK : ra_Clo _ m_X3_take cX3_take _ K := hK
  have hNV : NV = 1000000000 := rfl
  have hs0 := hS.1
  have hs2 := hS.2.2.1
  obtain ⟨LE, hLEe⟩ : ∃ z, z = least (M 17) ((S 0 0).toNat + 1) := ⟨_, rfl⟩
  have hLE : 0 ≤ LE ∧ LE ≤ NV := by
    rw [hLEe]
    refine ⟨?_, (least_le _ _).1⟩
    have key : ∀ n : Nat, n ≤ (S 0 0).toNat + 1 → 0 ≤ least (M 17) n := by
      intro n
      induction n with
      | zero => intro _; simp [least]
      | succ n ih => intro h; have := ih (by omega); have := hr (n : Nat) ⟨by omega, by omega⟩; simp only [least]; omega
    exact key _ (Nat.le_refl _)
  obtain ⟨fi, hfie⟩ : ∃ z, z = (if S 0 2 ≠ -1 then S 0 2 else 0) := ⟨_, rfl⟩
  obtain ⟨la, hla⟩ : ∃ z, z = (if S 0 2 ≠ -1 then S 0 3 else S 0 0 - 1) := ⟨_, rfl⟩
  have hth : ∀ n : Int, thr S n ↔ fi ≤ n ∧ n ≤ la := by
    intro n
    have := thr_C hs hS n
    obtain ⟨e5, e6, e7, e8, e9⟩ := scC_e hs
    rw [e5, e7, e8, ← hfie, ← hla] at this
    exact this.symm
  have hfl : 0 ≤ fi ∧ fi ≤ la + 1 ∧ la < S 0 0 := by
    split at hfie <;> split at hla <;> omega
  have J111 : ∀ (MA : ra_M), (∀ t : Nat, t ≤ (S 0 0).toNat → MA 16 (t : Nat) = tk0 S (M 17) (t : Nat)) → ∀ (M1 : ra_M), scC M1 = S → M1 16 = tk1 S (MA 16) (LE + S 5 4) pit (S 0 0).toNat → frX [16] M M1 → ∀ z, K 111 [some (vR 15), some (vI pit), some (vI LE), some (vI z), none, none] [] M1 := by
    intro MA hcA M1 hs1 ht1 hf1 z
    have hLEe2 := hLEe
    refine k_ic hK (q := 112)  dX3_take_111 rfl (by decide) (k_isn hK (q := 113)  dX3_take_112 rfl (L2 := [some (vR 15), some (vI pit), some (vI LE), some (vI 0), none, none]) (Nat.le_of_ble_eq_true rfl) rfl ?_)
    refine take_c hK hS (M0 := M) (le := LE) (t1 := tk1 S (MA 16) (LE + S 5 4) pit (S 0 0).toNat) hr (fun M2 h1 h2 => ⟨rfl, fun j hj => ?_, h2⟩) (El S).length 0 M1 (by omega) hs1 (NxL_fr hn (hf1 10 (by decide)) (hf1 11 (by decide)) (hf1 12 (by decide)) (hf1 13 (by decide))) ht1 hf1
    rw [h1]
    unfold fwdT
    rw [← hLEe2]
    exact tk2_congP (P := pn S) (El S) (fun e he => (El_pn hS e he).1) (fun _ _ => rfl) _ _ (tk1_congP _ _ (fun j hj => by have := hcA j.toNat (by omega); rw [show ((j.toNat : Nat) : Int) = j by omega] at this; exact this) _) j hj
  have J60 : ∀ (MA : ra_M), scC MA = S → (∀ t : Nat, t ≤ (S 0 0).toNat → MA 16 (t : Nat) = tk0 S (M 17) (t : Nat)) → frX [16] M MA → ∀ z, K 60 [some (vR 15), some (vI pit), some (vI LE), some (vI z), none, none] [] MA := by
    intro MA hsA hcA hfA z
    refine k_aln hK (q := 61)  dX3_take_60 rfl (z := 15) rfl (k_gR hK (q := 64) (r := 1) dX3_take_61 rfl rf_X3_18 rfl rfl ?_)
    refine k_iv0I hK (q := 67) dX3_take_64 rfl rm_X3_89 rfl rfl (Nat.le_of_ble_eq_true rfl) (t_firstThere _ MA) ?_
    obtain ⟨f5, f6, f7, f8, f9⟩ := scC_e hsA
    have hfi : (if MA 1 7 ≠ -1 then MA 1 7 else 0) = ((fi.toNat : Nat) : Int) := by rw [f7]; omega
    rw [hfi]
    refine k_isn hK (q := 68)  dX3_take_67 rfl (L2 := [some (vR 15), some (vI pit), some (vI LE), some (vI (fi.toNat : Nat)), none, none]) (Nat.le_of_ble_eq_true rfl) rfl ?_
    exact take_b hK hS (M0 := M) (le := LE) (fi := fi) (la := la) (t0 := MA 16) hLE hth (by omega) hla (J111 MA hcA) (la + 1 - fi).toNat fi.toNat MA (by omega) hsA (by omega) (tk1_none _ (fun i hi q => by have := (hth (i : Nat)).mp q; omega)).symm hfA
  refine k_ldc hK (q := 2)  dX3_take_0 rfl rc_X3_33 (k_isn hK (q := 3)  dX3_take_2 rfl (L2 := [some (vR 15), some (vI pit), some (vI 1000000000), none, none, none]) (Nat.le_of_ble_eq_true rfl) rfl (k_ic hK (q := 4)  dX3_take_3 rfl (by decide) (k_isn hK (q := 5)  dX3_take_4 rfl (L2 := [some (vR 15), some (vI pit), some (vI 1000000000), some (vI 0), none, none]) (Nat.le_of_ble_eq_true rfl) rfl ?_)))
  rw [hLEe] at J60
  exact take_a hK hS hr J60 ((S 0 0).toNat + 1) 0 M NV (by omega) hs rfl (fun t ht => by omega) (frX_refl _ _)
