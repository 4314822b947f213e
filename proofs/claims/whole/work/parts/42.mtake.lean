/-! the reference takes an EVENT -/
theorem eq_lw {f g : Int → Int} (h : eq61 f g) {i v : Int} (hi : 0 ≤ i ∧ i ≤ 60) {s : Int} (hs : s = min (f i) v) : eq61 (fU f i s) (lw g i v) := by
  intro j a b
  unfold fU lw
  by_cases hj : j = i
  · rw [if_pos hj, if_pos hj, hs, hj, h i hi.1 hi.2]
  · rw [if_neg hj, if_neg hj]; exact h j a b
theorem tk2_app (S : Sc) (c : Int → Int) (pit : Int) (A B : List Eg) (t : Int → Int) : tk2 S c pit (A ++ B) t = tk2 S c pit B (tk2 S c pit A t) := by
  unfold tk2
  rw [List.foldl_append]
theorem tk2_stuck {S : Sc} (hS : okSc S) {c : Int → Int} {pit p : Int} : ∀ (G : List Eg) (t : Int → Int), (∀ e ∈ G, e.1 = p ∧ 0 ≤ e.2.2) → (∀ j, t j ≤ NV) → NV ≤ c (p + 1) → tk2 S c pit G t = t := by
  intro G
  induction G with
  | nil => intro t _ _ _; rfl
  | cons e G ih =>
    intro t h h1 h2
    have he := h e (by simp)
    have hw := wr_in hS e.2.1 pit
    have hl : lw t (e.2.1 + 1) (c (e.1 + 1) + e.2.2 + wr S e.2.1 pit) = t := by
      funext j
      unfold lw
      split
      · rw [he.1]; have := h1 j; omega
      · rfl
    show tk2 S c pit G (lw t (e.2.1 + 1) (c (e.1 + 1) + e.2.2 + wr S e.2.1 pit)) = t
    rw [hl]
    exact ih t (fun e he => h e (by simp [he])) h1 h2
def Hp (S : Sc) (p : Int) : List Eg := (nx S p).map (fun q => (p, q.1, q.2))
theorem Hp_len (S : Sc) (p : Int) : (Hp S p).length = (nx S p).length := by simp [Hp]
theorem Hp_get {S : Sc} {p : Int} {i : Nat} {y w : Int} (h : (nx S p)[i]? = some (y, w)) : (Hp S p)[i]? = some (p, y, w) := by
  unfold Hp
  rw [List.getElem?_map, h]
  rfl
theorem Hp_mem {S : Sc} (hS : okSc S) {p : Int} : ∀ e ∈ Hp S p, e.1 = p ∧ 0 ≤ e.2.2 := by
  intro e he
  obtain ⟨q, hq, rfl⟩ := List.mem_map.mp he
  exact ⟨rfl, (nx_mem hS hq).2.1⟩
theorem Hp_Ew {S : Sc} (hS : okSc S) {n : Nat} (h : n ≤ (S 0 0).toNat) : ∀ e ∈ Hp S ((n : Int) - 1), e ∈ Ew S := by
  intro e he
  refine Ev_Ew (n := n + 1) (by omega) e ?_
  simp only [Ev]
  exact List.mem_append.mpr (Or.inr he)

set_option maxRecDepth 20000 in
set_option maxHeartbeats 2000000 in
theorem mtake_a {C : Nat → List ra_V → ra_M → (Option ra_V → ra_M → Prop) → Prop} {Q : Option ra_V → ra_M → Prop} {K : Nat → ra_L → List ra_V → ra_M → Prop} (hK : ra_Clo C m_X8_take cX8_take Q K) {S : Sc} (hS : okSc S) {M0 : ra_M} (hs : scM M0 = S) {c : Int → Int} {B e : Int} (hB : 0 ≤ B ∧ B ≤ 990000000) (hdd : dd S B c) (hce : eq61 (M0 43) c)
    (hX : ∀ (M : ra_M), eq61 (M 44) (tk0 S c) → frM [44] [] M0 M → ∀ z, K 73 [some (vR 32), some (vI e), some (vI (least c 61)), some (vI z), none, none] [] M) :
    ∀ (n i : Nat) (M : ra_M) (le : Int), i + n = 61 → le = least c i → (∀ t : Nat, t < i → M 44 (t : Nat) = tk0 S c (t : Nat)) → frM [44] [] M0 M → K 5 [some (vR 32), some (vI e), some (vI le), some (vI (i : Nat)), none, none] [] M := by
  have hNV : NV = 1000000000 := rfl
  intro n
  induction n with
  | zero =>
    intro i M le hi hle hc hf
    refine k_iln hK (q := 6)  dX8_take_5 rfl (z := (i : Nat)) rfl (k_bp hK (q := 8)  dX8_take_6 rfl (by decide) ?_)
    refine k_cge hK (q := 11) (t := 73) dX8_take_8 rfl rfl (fun h8 => ?_) (fun h8 => ?_)
    · have hi2 : i = 61 := by omega
      subst hi2
      subst hle
      exact hX M (fun j a b => by have := hc j.toNat (by omega); rw [show ((j.toNat : Nat) : Int) = j by omega] at this; exact this) hf _
    · exact absurd h8 (by omega)
  | succ n ih =>
    intro i M le hi hle hc hf
    have hc1 := hS.2.2.2.2.2.2.2.1 1 (by omega) (by omega)
    have c43 : M 43 (i : Nat) = c (i : Nat) := by rw [hf.1 43 (by decide) (by decide)]; exact hce _ (by omega) (by omega)
    have c39 : M 39 1 = S 5 1 := by rw [hf.1 39 (by decide) (by decide), (scM_a hs).2.2.2.2]
    have d1 := hdd.1 (i : Nat)
    have d3 := hdd.2.2 (i : Nat)
    have dl := (least_le c i).1
    refine k_iln hK (q := 6)  dX8_take_5 rfl (z := (i : Nat)) rfl (k_bp hK (q := 8)  dX8_take_6 rfl (by decide) ?_)
    refine k_cge hK (q := 11) (t := 73) dX8_take_8 rfl rfl (fun h8 => ?_) (fun h8 => ?_)
    · exact absurd h8 (by omega)
    · refine k_aln hK (q := 12)  dX8_take_11 rfl (z := 32) rfl (k_gR hK (q := 15) (r := 43) dX8_take_12 rfl rf_X8_47 rfl rfl (k_iln hK (q := 16)  dX8_take_15 rfl (z := (i : Nat)) rfl (k_ald hK (q := 17)  dX8_take_16 rfl (y := M 43 (i : Nat)) rfl (by omega) rfl (k_iln hK (q := 18)  dX8_take_17 rfl (z := le) rfl ?_))))
      refine k_cge hK (q := 21) (t := 30) dX8_take_18 rfl rfl (fun h18 => ?_) (fun h18 => ?_)
      · refine k_iln hK (q := 31)  dX8_take_30 rfl (z := le) rfl (k_isn hK (q := 32)  dX8_take_31 rfl (L2 := [some (vR 32), some (vI e), some (vI le), some (vI (i : Nat)), none, none]) (Nat.le_of_ble_eq_true rfl) rfl (k_aln hK (q := 33)  dX8_take_32 rfl (z := 32) rfl (k_gR hK (q := 36) (r := 44) dX8_take_33 rfl rf_X8_50 rfl rfl (k_iln hK (q := 37)  dX8_take_36 rfl (z := (i : Nat)) rfl (k_aln hK (q := 38)  dX8_take_37 rfl (z := 32) rfl ?_)))))
        refine k_gR hK (q := 41) (r := 43) dX8_take_38 rfl rf_X8_47 rfl rfl (k_iln hK (q := 42)  dX8_take_41 rfl (z := (i : Nat)) rfl (k_ald hK (q := 43)  dX8_take_42 rfl (y := M 43 (i : Nat)) rfl (by omega) rfl (k_ldc hK (q := 45)  dX8_take_43 rfl rc_X8_123 ?_)))
        refine k_cge hK (q := 48) (t := 64) dX8_take_45 rfl rfl (fun h45 => ?_) (fun h45 => ?_)
        · refine k_ldc hK (q := 66)  dX8_take_64 rfl rc_X8_123 (k_ast hK (q := 67)  dX8_take_66 rfl rfl (by omega) (k_inc hK (q := 70)  dX8_take_67 rfl (y := (i : Nat) + 1) (L2 := [some (vR 32), some (vI e), some (vI le), some (vI ((i : Nat) + 1)), none, none]) rfl rfl (by omega) rfl (k_goto hK (t := 5) dX8_take_70 rfl ?_)))
          refine ih (i + 1) _ _ (by omega) (by simp only [least]; omega) (fun t ht => ?_) (frM_up hf _ _ (by decide) (by decide))
          by_cases h : t = i
          · subst h
            rw [up_same]
            unfold tk0
            omega
          · rw [up_j _ _ (by omega)]
            exact hc t (by omega)
        · refine k_aln hK (q := 49)  dX8_take_48 rfl (z := 32) rfl (k_gR hK (q := 52) (r := 43) dX8_take_49 rfl rf_X8_47 rfl rfl (k_iln hK (q := 53)  dX8_take_52 rfl (z := (i : Nat)) rfl (k_ald hK (q := 54)  dX8_take_53 rfl (y := M 43 (i : Nat)) rfl (by omega) rfl (k_aln hK (q := 55)  dX8_take_54 rfl (z := 32) rfl (k_gR hK (q := 58) (r := 39) dX8_take_55 rfl rf_X8_35 rfl rfl ?_)))))
          refine k_ic hK (q := 59)  dX8_take_58 rfl (by decide) (k_ald hK (q := 60)  dX8_take_59 rfl (y := M 39 1) rfl (by omega) rfl (k_add hK (q := 61)  dX8_take_60 rfl (z := (M 43 (i : Nat)) + (M 39 1)) rfl (by omega) (k_goto hK (t := 66) dX8_take_61 rfl (k_ast hK (q := 67)  dX8_take_66 rfl rfl (by omega) (k_inc hK (q := 70)  dX8_take_67 rfl (y := (i : Nat) + 1) (L2 := [some (vR 32), some (vI e), some (vI le), some (vI ((i : Nat) + 1)), none, none]) rfl rfl (by omega) rfl ?_)))))
          refine k_goto hK (t := 5) dX8_take_70 rfl ?_
          refine ih (i + 1) _ _ (by omega) (by simp only [least]; omega) (fun t ht => ?_) (frM_up hf _ _ (by decide) (by decide))
          by_cases h : t = i
          · subst h
            rw [up_same]
            unfold tk0
            omega
          · rw [up_j _ _ (by omega)]
            exact hc t (by omega)
      · refine k_aln hK (q := 22)  dX8_take_21 rfl (z := 32) rfl (k_gR hK (q := 25) (r := 43) dX8_take_22 rfl rf_X8_47 rfl rfl (k_iln hK (q := 26)  dX8_take_25 rfl (z := (i : Nat)) rfl (k_ald hK (q := 27)  dX8_take_26 rfl (y := M 43 (i : Nat)) rfl (by omega) rfl (k_goto hK (t := 31) dX8_take_27 rfl (k_isn hK (q := 32)  dX8_take_31 rfl (L2 := [some (vR 32), some (vI e), some (vI (M 43 (i : Nat))), some (vI (i : Nat)), none, none]) (Nat.le_of_ble_eq_true rfl) rfl ?_)))))
        refine k_aln hK (q := 33)  dX8_take_32 rfl (z := 32) rfl (k_gR hK (q := 36) (r := 44) dX8_take_33 rfl rf_X8_50 rfl rfl (k_iln hK (q := 37)  dX8_take_36 rfl (z := (i : Nat)) rfl (k_aln hK (q := 38)  dX8_take_37 rfl (z := 32) rfl (k_gR hK (q := 41) (r := 43) dX8_take_38 rfl rf_X8_47 rfl rfl (k_iln hK (q := 42)  dX8_take_41 rfl (z := (i : Nat)) rfl ?_)))))
        refine k_ald hK (q := 43)  dX8_take_42 rfl (y := M 43 (i : Nat)) rfl (by omega) rfl (k_ldc hK (q := 45)  dX8_take_43 rfl rc_X8_123 ?_)
        refine k_cge hK (q := 48) (t := 64) dX8_take_45 rfl rfl (fun h45 => ?_) (fun h45 => ?_)
        · refine k_ldc hK (q := 66)  dX8_take_64 rfl rc_X8_123 (k_ast hK (q := 67)  dX8_take_66 rfl rfl (by omega) (k_inc hK (q := 70)  dX8_take_67 rfl (y := (i : Nat) + 1) (L2 := [some (vR 32), some (vI e), some (vI (M 43 (i : Nat))), some (vI ((i : Nat) + 1)), none, none]) rfl rfl (by omega) rfl (k_goto hK (t := 5) dX8_take_70 rfl ?_)))
          refine ih (i + 1) _ _ (by omega) (by simp only [least]; omega) (fun t ht => ?_) (frM_up hf _ _ (by decide) (by decide))
          by_cases h : t = i
          · subst h
            rw [up_same]
            unfold tk0
            omega
          · rw [up_j _ _ (by omega)]
            exact hc t (by omega)
        · refine k_aln hK (q := 49)  dX8_take_48 rfl (z := 32) rfl (k_gR hK (q := 52) (r := 43) dX8_take_49 rfl rf_X8_47 rfl rfl (k_iln hK (q := 53)  dX8_take_52 rfl (z := (i : Nat)) rfl (k_ald hK (q := 54)  dX8_take_53 rfl (y := M 43 (i : Nat)) rfl (by omega) rfl (k_aln hK (q := 55)  dX8_take_54 rfl (z := 32) rfl (k_gR hK (q := 58) (r := 39) dX8_take_55 rfl rf_X8_35 rfl rfl ?_)))))
          refine k_ic hK (q := 59)  dX8_take_58 rfl (by decide) (k_ald hK (q := 60)  dX8_take_59 rfl (y := M 39 1) rfl (by omega) rfl (k_add hK (q := 61)  dX8_take_60 rfl (z := (M 43 (i : Nat)) + (M 39 1)) rfl (by omega) (k_goto hK (t := 66) dX8_take_61 rfl (k_ast hK (q := 67)  dX8_take_66 rfl rfl (by omega) (k_inc hK (q := 70)  dX8_take_67 rfl (y := (i : Nat) + 1) (L2 := [some (vR 32), some (vI e), some (vI (M 43 (i : Nat))), some (vI ((i : Nat) + 1)), none, none]) rfl rfl (by omega) rfl ?_)))))
          refine k_goto hK (t := 5) dX8_take_70 rfl ?_
          refine ih (i + 1) _ _ (by omega) (by simp only [least]; omega) (fun t ht => ?_) (frM_up hf _ _ (by decide) (by decide))
          by_cases h : t = i
          · subst h
            rw [up_same]
            unfold tk0
            omega
          · rw [up_j _ _ (by omega)]
            exact hc t (by omega)

set_option maxRecDepth 20000 in
set_option maxHeartbeats 2000000 in
theorem mtake_b {d : Nat} {Q : Option ra_V → ra_M → Prop} {K : Nat → ra_L → List ra_V → ra_M → Prop} (hK : ra_Clo (Ex d) m_X8_take cX8_take Q K) {S : Sc} (hS : okSc S) {M0 : ra_M} {le e pit : Int} {t0 : Int → Int} (he : 0 ≤ e ∧ e < 120) (hle : 0 ≤ le ∧ le ≤ NV) (h40 : M0 40 e = pit)
    (hX : ∀ (M : ra_M), eq61 (M 44) (tk1 S t0 (le + S 5 4) pit (S 0 0).toNat) → scM M = S → frM [44] [] M0 M → ∀ z, K 148 [some (vR 32), some (vI e), some (vI le), some (vI z), none, none] [] M) :
    ∀ (n i : Nat) (M : ra_M), i + n = (S 0 0).toNat → scM M = S → eq61 (M 44) (tk1 S t0 (le + S 5 4) pit i) → frM [44] [] M0 M → K 75 [some (vR 32), some (vI e), some (vI le), some (vI (i : Nat)), none, none] [] M := by
  have hNV : NV = 1000000000 := rfl
  have hs0 := hS.1
  intro n
  induction n with
  | zero =>
    intro i M hi hs ht hf
    obtain ⟨e5, e6, e7, e8, e9⟩ := scM_e hs
    refine k_iln hK (q := 76)  dX8_take_75 rfl (z := (i : Nat)) rfl (k_aln hK (q := 77)  dX8_take_76 rfl (z := 32) rfl (k_gI hK (q := 80) (z := M 32 4) 0 dX8_take_77 rfl rf_X8_86 rfl rfl rfl rfl ?_))
    refine k_cge hK (q := 83) (t := 148) dX8_take_80 rfl rfl (fun h80 => ?_) (fun h80 => ?_)
    · have hi2 : i = (S 0 0).toNat := by omega
      subst hi2
      exact hX M ht hs hf _
    · exact absurd h80 (by omega)
  | succ n ih =>
    intro i M hi hs ht hf
    obtain ⟨e5, e6, e7, e8, e9⟩ := scM_e hs
    obtain ⟨a2, a3, a4, a5, a6⟩ := scM_a hs
    have q40 : M 40 e = pit := by rw [hf.1 40 (by decide) (by decide)]; exact h40
    have hc4 := hS.2.2.2.2.2.2.2.1 4 (by omega) (by omega)
    have e4 : M 39 4 = S 5 4 := by rw [a6]
    have hw := wr_in hS (i : Nat) pit
    refine k_iln hK (q := 76)  dX8_take_75 rfl (z := (i : Nat)) rfl (k_aln hK (q := 77)  dX8_take_76 rfl (z := 32) rfl (k_gI hK (q := 80) (z := M 32 4) 0 dX8_take_77 rfl rf_X8_86 rfl rfl rfl rfl ?_))
    refine k_cge hK (q := 83) (t := 148) dX8_take_80 rfl rfl (fun h80 => ?_) (fun h80 => ?_)
    · exact absurd h80 (by omega)
    · refine k_aln hK (q := 84)  dX8_take_83 rfl (z := 32) rfl (k_iln hK (q := 85)  dX8_take_84 rfl (z := (i : Nat)) rfl ?_)
      refine k_iv1I hK (q := 88) dX8_take_85 rfl rm_X8_115 rfl rfl (Nat.le_of_ble_eq_true rfl) (t_isThere _ M (i : Nat)) ?_
      refine k_ifeq hK (q := 91) (t := 142) dX8_take_88 rfl rfl (fun h88 => ?_) (fun h88 => ?_)
      · have h88 := bi_0.mp h88
        refine k_inc hK (q := 145)  dX8_take_142 rfl (y := (i : Nat) + 1) (L2 := [some (vR 32), some (vI e), some (vI le), some (vI ((i : Nat) + 1)), none, none]) rfl rfl (by omega) rfl (k_goto hK (t := 75) dX8_take_145 rfl ?_)
        refine ih (i + 1) M (by omega) hs ?_ hf
        simp only [tk1]
        rw [if_neg (fun q => h88 ((thr_M hs _).mpr q))]
        exact ht
      · have h88 := bi_1.mp h88
        refine k_iln hK (q := 92)  dX8_take_91 rfl (z := le) rfl (k_aln hK (q := 93)  dX8_take_92 rfl (z := 32) rfl (k_gR hK (q := 96) (r := 39) dX8_take_93 rfl rf_X8_35 rfl rfl (k_ic hK (q := 97)  dX8_take_96 rfl (by decide) (k_ald hK (q := 98)  dX8_take_97 rfl (y := M 39 4) rfl (by omega) rfl (k_add hK (q := 99)  dX8_take_98 rfl (z := le + (M 39 4)) rfl (by omega) ?_)))))
        refine k_aln hK (q := 100)  dX8_take_99 rfl (z := 32) rfl (k_iln hK (q := 101)  dX8_take_100 rfl (z := (i : Nat)) rfl (k_iln hK (q := 102)  dX8_take_101 rfl (z := e) rfl ?_))
        refine k_iv2I hK (q := 105) dX8_take_102 rfl rm_X8_149 rfl rfl (Nat.le_of_ble_eq_true rfl) (xm_wrong _ M (i : Nat) e S hs (by omega) he) ?_
        rw [q40]
        refine k_add hK (q := 106)  dX8_take_105 rfl (z := (le + (M 39 4)) + (wr S (i : Nat) pit)) rfl (by omega) (k_is hK (q := 108)  dX8_take_106 rfl (L2 := [some (vR 32), some (vI e), some (vI le), some (vI (i : Nat)), some (vI ((le + (M 39 4)) + (wr S (i : Nat) pit))), none]) (Nat.le_of_ble_eq_true rfl) rfl (k_aln hK (q := 109)  dX8_take_108 rfl (z := 32) rfl (k_gR hK (q := 112) (r := 44) dX8_take_109 rfl rf_X8_50 rfl rfl (k_iln hK (q := 113)  dX8_take_112 rfl (z := (i : Nat)) rfl (k_ic hK (q := 114)  dX8_take_113 rfl (by decide) ?_)))))
        refine k_add hK (q := 115)  dX8_take_114 rfl (z := (i : Nat) + 1) rfl (by omega) (k_il hK (q := 117)  dX8_take_115 rfl (z := ((le + (M 39 4)) + (wr S (i : Nat) pit))) rfl (k_aln hK (q := 118)  dX8_take_117 rfl (z := 32) rfl (k_gR hK (q := 121) (r := 44) dX8_take_118 rfl rf_X8_50 rfl rfl (k_iln hK (q := 122)  dX8_take_121 rfl (z := (i : Nat)) rfl (k_ic hK (q := 123)  dX8_take_122 rfl (by decide) ?_)))))
        refine k_add hK (q := 124)  dX8_take_123 rfl (z := (i : Nat) + 1) rfl (by omega) (k_ald hK (q := 125)  dX8_take_124 rfl (y := M 44 ((i : Nat) + 1)) rfl (by omega) rfl ?_)
        refine k_cge hK (q := 128) (t := 133) dX8_take_125 rfl rfl (fun h125 => ?_) (fun h125 => ?_)
        · refine k_aln hK (q := 134)  dX8_take_133 rfl (z := 32) rfl (k_gR hK (q := 137) (r := 44) dX8_take_134 rfl rf_X8_50 rfl rfl (k_iln hK (q := 138)  dX8_take_137 rfl (z := (i : Nat)) rfl (k_ic hK (q := 139)  dX8_take_138 rfl (by decide) (k_add hK (q := 140)  dX8_take_139 rfl (z := (i : Nat) + 1) rfl (by omega) (k_ald hK (q := 141)  dX8_take_140 rfl (y := M 44 ((i : Nat) + 1)) rfl (by omega) rfl ?_)))))
          refine k_ast hK (q := 142)  dX8_take_141 rfl rfl (by omega) (k_inc hK (q := 145)  dX8_take_142 rfl (y := (i : Nat) + 1) (L2 := [some (vR 32), some (vI e), some (vI le), some (vI ((i : Nat) + 1)), some (vI ((le + (M 39 4)) + (wr S (i : Nat) pit))), none]) rfl rfl (by omega) rfl (k_goto hK (t := 75) dX8_take_145 rfl ?_))
          refine k_weak hK (L2 := [some (vR 32), some (vI e), some (vI le), some (vI ((i : Nat) + 1)), none, none]) ⟨Or.inl rfl, Or.inl rfl, Or.inl rfl, Or.inl rfl, Or.inr rfl, Or.inl rfl, trivial⟩ ?_
          refine ih (i + 1) _ (by omega) (by rw [scM_fr (M := M) (frM_up (frM_refl [44] [] _) _ _ (by decide) (by decide)) (by decide) (by decide)]; exact hs) ?_ (frM_up hf _ _ (by decide) (by decide))
          simp only [tk1]
          rw [if_pos ((thr_M hs _).mp h88), up_fU]
          refine eq_lw ht (by omega) ?_
          rw [← e4]
          omega
        · refine k_il hK (q := 130)  dX8_take_128 rfl (z := ((le + (M 39 4)) + (wr S (i : Nat) pit))) rfl (k_goto hK (t := 141) dX8_take_130 rfl (k_ast hK (q := 142)  dX8_take_141 rfl rfl (by omega) (k_inc hK (q := 145)  dX8_take_142 rfl (y := (i : Nat) + 1) (L2 := [some (vR 32), some (vI e), some (vI le), some (vI ((i : Nat) + 1)), some (vI ((le + (M 39 4)) + (wr S (i : Nat) pit))), none]) rfl rfl (by omega) rfl (k_goto hK (t := 75) dX8_take_145 rfl ?_))))
          refine k_weak hK (L2 := [some (vR 32), some (vI e), some (vI le), some (vI ((i : Nat) + 1)), none, none]) ⟨Or.inl rfl, Or.inl rfl, Or.inl rfl, Or.inl rfl, Or.inr rfl, Or.inl rfl, trivial⟩ ?_
          refine ih (i + 1) _ (by omega) (by rw [scM_fr (M := M) (frM_up (frM_refl [44] [] _) _ _ (by decide) (by decide)) (by decide) (by decide)]; exact hs) ?_ (frM_up hf _ _ (by decide) (by decide))
          simp only [tk1]
          rw [if_pos ((thr_M hs _).mp h88), up_fU]
          refine eq_lw ht (by omega) ?_
          rw [← e4]
          omega

set_option maxRecDepth 20000 in
set_option maxHeartbeats 2000000 in
theorem mtake_in {d : Nat} {Q : Option ra_V → ra_M → Prop} {K : Nat → ra_L → List ra_V → ra_M → Prop} (hK : ra_Clo (Ex d) m_X8_take cX8_take Q K) {S : Sc} (hS : okSc S) {M0 : ra_M} {p le e pit : Int} (hp : -1 ≤ p ∧ p < S 0 0) (he : 0 ≤ e ∧ e < 120) (h40 : M0 40 e = pit) {F : List Eg} {c t1 : Int → Int} (hFE : ∀ x ∈ F, x ∈ Ew S) (hHE : ∀ x ∈ Hp S p, x ∈ Ew S) (hc0 : ∀ j, 0 ≤ c j ∧ c j ≤ NV) (hce : eq61 (M0 43) c) (hdt1 : dt S t1)
    (hX : ∀ (M : ra_M), eq61 (M 44) (tk2 S c pit (F ++ Hp S p) t1) → scM M = S → frM [44, 47, 48] [25] M0 M → ∀ i, K 277 [some (vR 32), some (vI e), some (vI le), some (vI p), some (vI i), none] [] M) :
    ∀ (n i : Nat) (M : ra_M), i + n = (nx S p).length → scM M = S → NxM M (nx S p) → eq61 (M 44) (tk2 S c pit (F ++ (Hp S p).take i) t1) → frM [44, 47, 48] [25] M0 M → K 166 [some (vR 32), some (vI e), some (vI le), some (vI p), some (vI (i : Nat)), none] [] M := by
  have hNV : NV = 1000000000 := rfl
  have hs0 := hS.1
  have hnl := nx_len hS p
  intro n
  induction n with
  | zero =>
    intro i M hi hs hn ht hf
    have en := hn.1
    refine k_il hK (q := 168)  dX8_take_166 rfl (z := (i : Nat)) rfl (k_aln hK (q := 169)  dX8_take_168 rfl (z := 32) rfl (k_gI hK (q := 172) (z := M 32 25) 0 dX8_take_169 rfl rf_X8_112 rfl rfl rfl rfl ?_))
    refine k_cge hK (q := 175) (t := 277) dX8_take_172 rfl rfl (fun h172 => ?_) (fun h172 => ?_)
    · have htk : (Hp S p).take i = Hp S p := List.take_of_length_le (by rw [Hp_len]; omega)
      rw [htk] at ht
      exact hX M ht hs hf _
    · exact absurd h172 (by omega)
  | succ n ih =>
    intro i M hi hs hn ht hf
    have en := hn.1
    have q40 : M 40 e = pit := by rw [hf.1 40 (by decide) (by decide)]; exact h40
    obtain ⟨⟨y, w⟩, hey⟩ : ∃ q, (nx S p)[i]? = some q := ⟨_, List.getElem?_eq_getElem (by omega)⟩
    obtain ⟨g47, g48⟩ := hn.2 i _ hey
    have hm := nx_mem hS (List.mem_of_getElem? hey)
    simp only at g47 g48 hm
    have hy := thr_lt hS hm.1
    have hw := wr_in hS y pit
    have hcx : M 43 (p + 1) = c (p + 1) := by rw [hf.1 43 (by decide) (by decide)]; exact hce _ (by omega) (by omega)
    have hx1 := hc0 (p + 1)
    have hdt := (dt_tk2 hS (c := c) (pit := pit) (fun j => (hc0 j).1) (F ++ (Hp S p).take i) t1 (fun x hx => by rcases List.mem_append.mp hx with h | h; exact hFE x h; exact hHE x (List.mem_of_mem_take h)) hdt1).1
    have hstep : tk2 S c pit (F ++ (Hp S p).take (i + 1)) t1 = lw (tk2 S c pit (F ++ (Hp S p).take i) t1) (y + 1) (c (p + 1) + w + wr S y pit) := by
      rw [show (Hp S p).take (i + 1) = (Hp S p).take i ++ [(p, y, w)] by rw [List.take_succ, Hp_get hey]; rfl, ← List.append_assoc, tk2_app]
      rfl
    refine k_il hK (q := 168)  dX8_take_166 rfl (z := (i : Nat)) rfl (k_aln hK (q := 169)  dX8_take_168 rfl (z := 32) rfl (k_gI hK (q := 172) (z := M 32 25) 0 dX8_take_169 rfl rf_X8_112 rfl rfl rfl rfl ?_))
    refine k_cge hK (q := 175) (t := 277) dX8_take_172 rfl rfl (fun h172 => ?_) (fun h172 => ?_)
    · exact absurd h172 (by omega)
    · refine k_aln hK (q := 176)  dX8_take_175 rfl (z := 32) rfl (k_gR hK (q := 179) (r := 43) dX8_take_176 rfl rf_X8_47 rfl rfl (k_iln hK (q := 180)  dX8_take_179 rfl (z := p) rfl (k_ic hK (q := 181)  dX8_take_180 rfl (by decide) (k_add hK (q := 182)  dX8_take_181 rfl (z := p + 1) rfl (by omega) (k_ald hK (q := 183)  dX8_take_182 rfl (y := M 43 (p + 1)) rfl (by omega) rfl ?_)))))
      refine k_ldc hK (q := 185)  dX8_take_183 rfl rc_X8_123 ?_
      refine k_cge hK (q := 188) (t := 277) dX8_take_185 rfl rfl (fun h185 => ?_) (fun h185 => ?_)
      · have hst : tk2 S c pit ((Hp S p).drop i) (tk2 S c pit (F ++ (Hp S p).take i) t1) = tk2 S c pit (F ++ (Hp S p).take i) t1 := tk2_stuck hS _ _ (fun e he => Hp_mem hS e (List.mem_of_mem_drop he)) (fun j => (hdt j).2) (by rw [← hcx]; exact h185)
        have ht2 := ht
        rw [← hst, ← tk2_app] at ht2
        rw [List.append_assoc, List.take_append_drop] at ht2
        exact hX M ht2 hs hf _
      · refine k_aln hK (q := 189)  dX8_take_188 rfl (z := 32) rfl (k_gR hK (q := 192) (r := 43) dX8_take_189 rfl rf_X8_47 rfl rfl (k_iln hK (q := 193)  dX8_take_192 rfl (z := p) rfl (k_ic hK (q := 194)  dX8_take_193 rfl (by decide) (k_add hK (q := 195)  dX8_take_194 rfl (z := p + 1) rfl (by omega) (k_ald hK (q := 196)  dX8_take_195 rfl (y := M 43 (p + 1)) rfl (by omega) rfl ?_)))))
        refine k_aln hK (q := 197)  dX8_take_196 rfl (z := 32) rfl (k_gR hK (q := 200) (r := 48) dX8_take_197 rfl rf_X8_62 rfl rfl (k_il hK (q := 202)  dX8_take_200 rfl (z := (i : Nat)) rfl (k_ald hK (q := 203)  dX8_take_202 rfl (y := M 48 (i : Nat)) rfl (by omega) rfl ?_)))
        rw [g48]
        refine k_add hK (q := 204)  dX8_take_203 rfl (z := (M 43 (p + 1)) + w) rfl (by omega) (k_aln hK (q := 205)  dX8_take_204 rfl (z := 32) rfl (k_aln hK (q := 206)  dX8_take_205 rfl (z := 32) rfl (k_gR hK (q := 209) (r := 47) dX8_take_206 rfl rf_X8_59 rfl rfl (k_il hK (q := 211)  dX8_take_209 rfl (z := (i : Nat)) rfl (k_ald hK (q := 212)  dX8_take_211 rfl (y := M 47 (i : Nat)) rfl (by omega) rfl ?_)))))
        rw [g47]
        refine k_iln hK (q := 213)  dX8_take_212 rfl (z := e) rfl ?_
        refine k_iv2I hK (q := 216) dX8_take_213 rfl rm_X8_149 rfl rfl (Nat.le_of_ble_eq_true rfl) (xm_wrong _ M y e S hs (by omega) he) ?_
        rw [q40]
        refine k_add hK (q := 217)  dX8_take_216 rfl (z := ((M 43 (p + 1)) + w) + (wr S y pit)) rfl (by omega) (k_is hK (q := 219)  dX8_take_217 rfl (L2 := [some (vR 32), some (vI e), some (vI le), some (vI p), some (vI (i : Nat)), some (vI (((M 43 (p + 1)) + w) + (wr S y pit)))]) (Nat.le_of_ble_eq_true rfl) rfl (k_aln hK (q := 220)  dX8_take_219 rfl (z := 32) rfl (k_gR hK (q := 223) (r := 44) dX8_take_220 rfl rf_X8_50 rfl rfl (k_aln hK (q := 224)  dX8_take_223 rfl (z := 32) rfl (k_gR hK (q := 227) (r := 47) dX8_take_224 rfl rf_X8_59 rfl rfl ?_)))))
        refine k_il hK (q := 229)  dX8_take_227 rfl (z := (i : Nat)) rfl (k_ald hK (q := 230)  dX8_take_229 rfl (y := M 47 (i : Nat)) rfl (by omega) rfl ?_)
        rw [g47]
        refine k_ic hK (q := 231)  dX8_take_230 rfl (by decide) (k_add hK (q := 232)  dX8_take_231 rfl (z := y + 1) rfl (by omega) (k_il hK (q := 234)  dX8_take_232 rfl (z := (((M 43 (p + 1)) + w) + (wr S y pit))) rfl (k_aln hK (q := 235)  dX8_take_234 rfl (z := 32) rfl (k_gR hK (q := 238) (r := 44) dX8_take_235 rfl rf_X8_50 rfl rfl (k_aln hK (q := 239)  dX8_take_238 rfl (z := 32) rfl ?_)))))
        refine k_gR hK (q := 242) (r := 47) dX8_take_239 rfl rf_X8_59 rfl rfl (k_il hK (q := 244)  dX8_take_242 rfl (z := (i : Nat)) rfl (k_ald hK (q := 245)  dX8_take_244 rfl (y := M 47 (i : Nat)) rfl (by omega) rfl ?_))
        rw [g47]
        refine k_ic hK (q := 246)  dX8_take_245 rfl (by decide) (k_add hK (q := 247)  dX8_take_246 rfl (z := y + 1) rfl (by omega) (k_ald hK (q := 248)  dX8_take_247 rfl (y := M 44 (y + 1)) rfl (by omega) rfl ?_))
        refine k_cge hK (q := 251) (t := 256) dX8_take_248 rfl rfl (fun h248 => ?_) (fun h248 => ?_)
        · refine k_aln hK (q := 257)  dX8_take_256 rfl (z := 32) rfl (k_gR hK (q := 260) (r := 44) dX8_take_257 rfl rf_X8_50 rfl rfl (k_aln hK (q := 261)  dX8_take_260 rfl (z := 32) rfl (k_gR hK (q := 264) (r := 47) dX8_take_261 rfl rf_X8_59 rfl rfl (k_il hK (q := 266)  dX8_take_264 rfl (z := (i : Nat)) rfl (k_ald hK (q := 267)  dX8_take_266 rfl (y := M 47 (i : Nat)) rfl (by omega) rfl ?_)))))
          rw [g47]
          refine k_ic hK (q := 268)  dX8_take_267 rfl (by decide) (k_add hK (q := 269)  dX8_take_268 rfl (z := y + 1) rfl (by omega) (k_ald hK (q := 270)  dX8_take_269 rfl (y := M 44 (y + 1)) rfl (by omega) rfl (k_ast hK (q := 271)  dX8_take_270 rfl rfl (by omega) (k_inc hK (q := 274)  dX8_take_271 rfl (y := (i : Nat) + 1) (L2 := [some (vR 32), some (vI e), some (vI le), some (vI p), some (vI ((i : Nat) + 1)), some (vI (((M 43 (p + 1)) + w) + (wr S y pit)))]) rfl rfl (by omega) rfl (k_goto hK (t := 166) dX8_take_274 rfl ?_)))))
          refine k_weak hK (L2 := [some (vR 32), some (vI e), some (vI le), some (vI p), some (vI ((i : Nat) + 1)), none]) ⟨Or.inl rfl, Or.inl rfl, Or.inl rfl, Or.inl rfl, Or.inl rfl, Or.inr rfl, trivial⟩ ?_
          refine ih (i + 1) _ (by omega) (by rw [scM_fr (M := M) (frM_up (frM_refl [44] [] _) _ _ (by decide) (by decide)) (by decide) (by decide)]; exact hs) (NxM_f hn (by rw [up_k _ _ _ (by decide)]) (up_k _ _ _ (by decide)) (up_k _ _ _ (by decide))) ?_ (frM_up hf _ _ (by decide) (by decide))
          rw [hstep, up_fU]
          refine eq_lw ht (by omega) ?_
          rw [← hcx]
          omega
        · refine k_il hK (q := 253)  dX8_take_251 rfl (z := (((M 43 (p + 1)) + w) + (wr S y pit))) rfl (k_goto hK (t := 270) dX8_take_253 rfl (k_ast hK (q := 271)  dX8_take_270 rfl rfl (by omega) (k_inc hK (q := 274)  dX8_take_271 rfl (y := (i : Nat) + 1) (L2 := [some (vR 32), some (vI e), some (vI le), some (vI p), some (vI ((i : Nat) + 1)), some (vI (((M 43 (p + 1)) + w) + (wr S y pit)))]) rfl rfl (by omega) rfl (k_goto hK (t := 166) dX8_take_274 rfl ?_))))
          refine k_weak hK (L2 := [some (vR 32), some (vI e), some (vI le), some (vI p), some (vI ((i : Nat) + 1)), none]) ⟨Or.inl rfl, Or.inl rfl, Or.inl rfl, Or.inl rfl, Or.inl rfl, Or.inr rfl, trivial⟩ ?_
          refine ih (i + 1) _ (by omega) (by rw [scM_fr (M := M) (frM_up (frM_refl [44] [] _) _ _ (by decide) (by decide)) (by decide) (by decide)]; exact hs) (NxM_f hn (by rw [up_k _ _ _ (by decide)]) (up_k _ _ _ (by decide)) (up_k _ _ _ (by decide))) ?_ (frM_up hf _ _ (by decide) (by decide))
          rw [hstep, up_fU]
          refine eq_lw ht (by omega) ?_
          rw [← hcx]
          omega

set_option maxRecDepth 20000 in
set_option maxHeartbeats 2000000 in
theorem mtake_c {d : Nat} {Q : Option ra_V → ra_M → Prop} {K : Nat → ra_L → List ra_V → ra_M → Prop} (hK : ra_Clo (Ex (d + 1)) m_X8_take cX8_take Q K) {S : Sc} (hS : okSc S) {M0 : ra_M} {le e pit : Int} (he : 0 ≤ e ∧ e < 120) (h40 : M0 40 e = pit) {c t1 : Int → Int} (hc0 : ∀ j, 0 ≤ c j ∧ c j ≤ NV) (hce : eq61 (M0 43) c) (hdt1 : dt S t1)
    (hX : ∀ (M : ra_M), eq61 (M 44) (tk2 S c pit (Ew S) t1) → scM M = S → frM [44, 47, 48] [25] M0 M → ∀ i, K 283 [some (vR 32), some (vI e), some (vI le), some (vI i), none, none] [] M) :
    ∀ (m n : Nat) (M : ra_M), n + m = (S 0 0).toNat + 1 → scM M = S → eq61 (M 44) (tk2 S c pit (Ev S n) t1) → frM [44, 47, 48] [25] M0 M → K 150 [some (vR 32), some (vI e), some (vI le), some (vI (((n : Nat) : Int) - 1)), none, none] [] M := by
  have hs0 := hS.1
  intro m
  induction m with
  | zero =>
    intro n M hn hs ht hf
    obtain ⟨e5, e6, e7, e8, e9⟩ := scM_e hs
    refine k_iln hK (q := 151)  dX8_take_150 rfl (z := (((n : Nat) : Int) - 1)) rfl (k_aln hK (q := 152)  dX8_take_151 rfl (z := 32) rfl (k_gI hK (q := 155) (z := M 32 4) 0 dX8_take_152 rfl rf_X8_86 rfl rfl rfl rfl ?_))
    refine k_cge hK (q := 158) (t := 283) dX8_take_155 rfl rfl (fun h155 => ?_) (fun h155 => ?_)
    · have hn2 : n = (S 0 0).toNat + 1 := by omega
      subst hn2
      exact hX M ht hs hf _
    · exact absurd h155 (by omega)
  | succ m ih =>
    intro n M hn hs ht hf
    obtain ⟨e5, e6, e7, e8, e9⟩ := scM_e hs
    refine k_iln hK (q := 151)  dX8_take_150 rfl (z := (((n : Nat) : Int) - 1)) rfl (k_aln hK (q := 152)  dX8_take_151 rfl (z := 32) rfl (k_gI hK (q := 155) (z := M 32 4) 0 dX8_take_152 rfl rf_X8_86 rfl rfl rfl rfl ?_))
    refine k_cge hK (q := 158) (t := 283) dX8_take_155 rfl rfl (fun h155 => ?_) (fun h155 => ?_)
    · exact absurd h155 (by omega)
    · refine k_aln hK (q := 159)  dX8_take_158 rfl (z := 32) rfl (k_iln hK (q := 160)  dX8_take_159 rfl (z := (((n : Nat) : Int) - 1)) rfl ?_)
      refine k_iv1 hK (q := 163) dX8_take_160 rfl rm_X8_146 rfl rfl (Nat.le_of_ble_eq_true rfl) (xm_nextsOf _ M (((n : Nat) : Int) - 1) S hs hS (by omega)) (fun r9 M5 h9 => ?_)
      obtain ⟨rfl, hn5, hf5⟩ := h9
      have q44 : M5 44 = M 44 := hf5.1 44 (by decide) (by decide)
      show K 163 [some (vR 32), some (vI e), some (vI le), some (vI (((n : Nat) : Int) - 1)), none, none] [] M5
      refine k_ic hK (q := 164)  dX8_take_163 rfl (by decide) (k_is hK (q := 166)  dX8_take_164 rfl (L2 := [some (vR 32), some (vI e), some (vI le), some (vI (((n : Nat) : Int) - 1)), some (vI 0), none]) (Nat.le_of_ble_eq_true rfl) rfl ?_)
      refine mtake_in hK hS (M0 := M0) (p := ((n : Nat) : Int) - 1) (by omega) he h40 (F := Ev S n) (Ev_Ew (by omega)) (Hp_Ew hS (by omega)) hc0 hce hdt1 (fun M6 ht6 hs6 hf6 i2 => ?_) (nx S (((n : Nat) : Int) - 1)).length 0 M5 (by omega) (by rw [scM_fr hf5 (by decide) (by decide)]; exact hs) hn5 ?_ (frM_trans hf (frM_sub hf5 (by decide) (by decide)))
      · skip
        refine k_inc hK (q := 280)  dX8_take_277 rfl (y := (((n : Nat) : Int) - 1) + 1) (L2 := [some (vR 32), some (vI e), some (vI le), some (vI ((((n : Nat) : Int) - 1) + 1)), some (vI i2), none]) rfl rfl (by omega) rfl (k_goto hK (t := 150) dX8_take_280 rfl ?_)
        refine k_weak hK (L2 := [some (vR 32), some (vI e), some (vI le), some (vI ((((n : Nat) : Int) - 1) + 1)), none, none]) ⟨Or.inl rfl, Or.inl rfl, Or.inl rfl, Or.inl rfl, Or.inr rfl, Or.inl rfl, trivial⟩ ?_
        have hp9 : ((n : Nat) : Int) - 1 + 1 = ((n + 1 : Nat) : Int) - 1 := by omega
        rw [hp9]
        exact ih (n + 1) M6 (by omega) hs6 ht6 hf6
      · rw [q44]
        simpa using ht

set_option maxRecDepth 20000 in
set_option maxHeartbeats 2000000 in
theorem mtake_d {C : Nat → List ra_V → ra_M → (Option ra_V → ra_M → Prop) → Prop} {Q : Option ra_V → ra_M → Prop} {K : Nat → ra_L → List ra_V → ra_M → Prop} (hK : ra_Clo C m_X8_take cX8_take Q K) {M0 : ra_M} {e le : Int}
    (hX : ∀ (M : ra_M), eq61 (M 42) (M0 44) → frM [42] [] M0 M → Q none M) :
    ∀ (n i : Nat) (M : ra_M), i + n = 61 → (∀ t : Nat, t < i → M 42 (t : Nat) = M0 44 (t : Nat)) → frM [42] [] M0 M → K 285 [some (vR 32), some (vI e), some (vI le), some (vI (i : Nat)), none, none] [] M := by
  intro n
  induction n with
  | zero =>
    intro i M hi hc hf
    refine k_iln hK (q := 286)  dX8_take_285 rfl (z := (i : Nat)) rfl (k_bp hK (q := 288)  dX8_take_286 rfl (by decide) ?_)
    refine k_cge hK (q := 291) (t := 309) dX8_take_288 rfl rfl (fun h288 => ?_) (fun h288 => ?_)
    · refine k_vr hK dX8_take_309 rfl ?_
      exact hX M (fun j a b => by have := hc j.toNat (by omega); rw [show ((j.toNat : Nat) : Int) = j by omega] at this; exact this) hf
    · exact absurd h288 (by omega)
  | succ n ih =>
    intro i M hi hc hf
    have q44 : M 44 = M0 44 := hf.1 44 (by decide) (by decide)
    refine k_iln hK (q := 286)  dX8_take_285 rfl (z := (i : Nat)) rfl (k_bp hK (q := 288)  dX8_take_286 rfl (by decide) ?_)
    refine k_cge hK (q := 291) (t := 309) dX8_take_288 rfl rfl (fun h288 => ?_) (fun h288 => ?_)
    · exact absurd h288 (by omega)
    · refine k_aln hK (q := 292)  dX8_take_291 rfl (z := 32) rfl (k_gR hK (q := 295) (r := 42) dX8_take_292 rfl rf_X8_44 rfl rfl (k_iln hK (q := 296)  dX8_take_295 rfl (z := (i : Nat)) rfl (k_aln hK (q := 297)  dX8_take_296 rfl (z := 32) rfl (k_gR hK (q := 300) (r := 44) dX8_take_297 rfl rf_X8_50 rfl rfl (k_iln hK (q := 301)  dX8_take_300 rfl (z := (i : Nat)) rfl ?_)))))
      refine k_ald hK (q := 302)  dX8_take_301 rfl (y := M 44 (i : Nat)) rfl (by omega) rfl (k_ast hK (q := 303)  dX8_take_302 rfl rfl (by omega) (k_inc hK (q := 306)  dX8_take_303 rfl (y := (i : Nat) + 1) (L2 := [some (vR 32), some (vI e), some (vI le), some (vI ((i : Nat) + 1)), none, none]) rfl rfl (by omega) rfl (k_goto hK (t := 285) dX8_take_306 rfl ?_)))
      refine ih (i + 1) _ (by omega) (fun t ht => ?_) (frM_up hf _ _ (by decide) (by decide))
      by_cases h : t = i
      · subst h
        rw [up_same, q44]
      · rw [up_j _ _ (by omega)]
        exact hc t (by omega)

set_option maxRecDepth 20000 in
set_option maxHeartbeats 2000000 in
theorem xm_take (d : Nat) (M : ra_M) (e : Int) (S : Sc) (hs : scM M = S) (hS : okSc S) (he : 0 ≤ e ∧ e < 120) (c : Int → Int) (B pit : Int) (hB : 0 ≤ B ∧ B ≤ 990000000) (hdd : dd S B c) (hce : eq61 (M 43) c) (h40 : M 40 e = pit) : Ex (d + 2) m_X8_take [vR 32, vI e] M (fun r M2 => r = none ∧ eq61 (M2 42) (fwdT S c pit) ∧ frM [42, 44, 47, 48] [25] M M2) := by
  refine Ex_call (Nat.le_of_ble_eq_true rfl) (fun K hK => ?_)
  show K 0 [some (vR 32), some (vI e), none, none, none, none] [] M
  have hK : ra_Clo _ m_X8_take cX8_take _ K := hK
  have hNV : NV = 1000000000 := rfl
  have hs0 := hS.1
  have hln := least_nn (c := c) (fun j => (hdd.1 j).1) 61
  have hll := (least_le c 61).1
  have hc4 := hS.2.2.2.2.2.2.2.1 4 (by omega) (by omega)
  have hlm : least c 61 = least c ((S 0 0).toNat + 1) := least_more (by omega) (fun i h1 h2 => hdd.2.1 _ (Or.inr ⟨by omega, fun q => by have := q.2.1; omega⟩))
  have hfin : tk2 S c pit (Ew S) (tk1 S (tk0 S c) (least c 61 + S 5 4) pit (S 0 0).toNat) = fwdT S c pit := by
    unfold fwdT
    rw [← hlm]
    exact tk2_Ev hS hdd _ _ (by omega) (dt_tk1 hS (dt_tk0 hS hdd) (by omega) _)
  have J283 : ∀ M3 : ra_M, eq61 (M3 44) (tk2 S c pit (Ew S) (tk1 S (tk0 S c) (least c 61 + S 5 4) pit (S 0 0).toNat)) → scM M3 = S → frM [44, 47, 48] [25] M M3 → ∀ z, K 283 [some (vR 32), some (vI e), some (vI (least c 61)), some (vI z), none, none] [] M3 := by
    intro M3 ht3 hs3 hf3 z
    refine k_ic hK (q := 284)  dX8_take_283 rfl (by decide) (k_isn hK (q := 285)  dX8_take_284 rfl (L2 := [some (vR 32), some (vI e), some (vI (least c 61)), some (vI 0), none, none]) (Nat.le_of_ble_eq_true rfl) rfl ?_)
    refine mtake_d hK (M0 := M3) (fun M4 h4 f4 => ⟨rfl, fun j a b => ?_, frM_trans (frM_sub hf3 (by decide) (by decide)) (frM_sub f4 (by decide) (by decide))⟩) 61 0 M3 (by omega) (fun t ht => by omega) (frM_refl _ _ _)
    rw [h4 j a b, ht3 j a b, hfin]
  have J148 : ∀ M2 : ra_M, eq61 (M2 44) (tk1 S (tk0 S c) (least c 61 + S 5 4) pit (S 0 0).toNat) → scM M2 = S → frM [44] [] M M2 → ∀ z, K 148 [some (vR 32), some (vI e), some (vI (least c 61)), some (vI z), none, none] [] M2 := by
    intro M2 ht2 hs2 hf2 z
    refine k_ic hK (q := 149)  dX8_take_148 rfl (by decide) (k_isn hK (q := 150)  dX8_take_149 rfl (L2 := [some (vR 32), some (vI e), some (vI (least c 61)), some (vI (-1)), none, none]) (Nat.le_of_ble_eq_true rfl) rfl ?_)
    exact mtake_c hK hS (M0 := M) he h40 (t1 := tk1 S (tk0 S c) (least c 61 + S 5 4) pit (S 0 0).toNat) hdd.1 hce (dt_tk1 hS (dt_tk0 hS hdd) (by omega) _) J283 ((S 0 0).toNat + 1) 0 M2 (by omega) hs2 ht2 (frM_sub hf2 (by decide) (by decide))
  have J73 : ∀ M1 : ra_M, eq61 (M1 44) (tk0 S c) → frM [44] [] M M1 → ∀ z, K 73 [some (vR 32), some (vI e), some (vI (least c 61)), some (vI z), none, none] [] M1 := by
    intro M1 h1 hf1 z
    refine k_ic hK (q := 74)  dX8_take_73 rfl (by decide) (k_isn hK (q := 75)  dX8_take_74 rfl (L2 := [some (vR 32), some (vI e), some (vI (least c 61)), some (vI 0), none, none]) (Nat.le_of_ble_eq_true rfl) rfl ?_)
    exact mtake_b hK hS (M0 := M) (t0 := tk0 S c) he (by omega) h40 J148 (S 0 0).toNat 0 M1 (by omega) (by rw [scM_fr hf1 (by decide) (by decide)]; exact hs) h1 hf1
  refine k_ldc hK (q := 2)  dX8_take_0 rfl rc_X8_123 (k_isn hK (q := 3)  dX8_take_2 rfl (L2 := [some (vR 32), some (vI e), some (vI 1000000000), none, none, none]) (Nat.le_of_ble_eq_true rfl) rfl (k_ic hK (q := 4)  dX8_take_3 rfl (by decide) (k_isn hK (q := 5)  dX8_take_4 rfl (L2 := [some (vR 32), some (vI e), some (vI 1000000000), some (vI 0), none, none]) (Nat.le_of_ble_eq_true rfl) rfl ?_)))
  exact mtake_a hK hS hs hB hdd hce J73 61 0 M NV (by omega) rfl (fun t ht => by omega) (frM_refl _ _ _)
