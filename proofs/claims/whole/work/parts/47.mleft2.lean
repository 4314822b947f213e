/-! the reference: left, choose, align -/
theorem b1_take {S : Sc} {pit : Int} {r1 : Int → Int} {l : List (Int × Int)} {i : Nat} {y w : Int} (h : l[i]? = some (y, w)) (c : Int) : b1 S pit r1 (l.take (i + 1)) c = min (b1 S pit r1 (l.take i) c) (w + wr S y pit + r1 (y + 1)) := by
  unfold b1
  rw [List.take_succ, h, List.foldl_append]
  rfl

set_option maxRecDepth 20000 in
set_option maxHeartbeats 2000000 in
theorem left_p {d : Nat} {Q : Option ra_V → ra_M → Prop} {K : Nat → ra_L → List ra_V → ra_M → Prop} (hK : ra_Clo (Ex d) m_X8_left cX8_left Q K) {S : Sc} (hS : okSc S) {M : ra_M} (hs : scM M = S) {p e pit c0 : Int} {r1 : Int → Int} (he : 0 ≤ e ∧ e < 120) (h40 : M 40 e = pit) (hn : NxM M (nx S p)) (hr1 : ∀ j, pn S j → M 49 ((e + 1) * 61 + j) = r1 j ∧ 0 ≤ r1 j ∧ r1 j ≤ 200000)
    (hX : ∀ i, K 129 [some (vR 32), some (vI e), some (vI p), some (vI (b1 S pit r1 (nx S p) c0)), some (vI i), none] [] M) :
    ∀ (n i : Nat) (c : Int), i + n = (nx S p).length → c = b1 S pit r1 ((nx S p).take i) c0 → K 59 [some (vR 32), some (vI e), some (vI p), some (vI c), some (vI (i : Nat)), none] [] M := by
  have hs0 := hS.1
  have en := hn.1
  have hnl := nx_len hS p
  intro n
  induction n with
  | zero =>
    intro i c hi hc
    refine k_il hK (q := 61)  dX8_left_59 rfl (z := (i : Nat)) rfl (k_aln hK (q := 62)  dX8_left_61 rfl (z := 32) rfl (k_gI hK (q := 65) (z := M 32 25) 0 dX8_left_62 rfl rf_X8_112 rfl rfl rfl rfl ?_))
    refine k_cge hK (q := 68) (t := 129) dX8_left_65 rfl rfl (fun h65 => ?_) (fun h65 => ?_)
    · have htk : (nx S p).take i = nx S p := List.take_of_length_le (by omega)
      rw [htk] at hc
      subst hc
      exact hX _
    · exact absurd h65 (by omega)
  | succ n ih =>
    intro i c hi hc
    obtain ⟨⟨y, w⟩, hey⟩ : ∃ q, (nx S p)[i]? = some q := ⟨_, List.getElem?_eq_getElem (by omega)⟩
    obtain ⟨g47, g48⟩ := hn.2 i _ hey
    have hm := nx_mem hS (List.mem_of_getElem? hey)
    simp only at g47 g48 hm
    have hy := thr_lt hS hm.1
    have hw := wr_in hS y pit
    obtain ⟨hry, hrb⟩ := hr1 (y + 1) ⟨by omega, by omega⟩
    rw [show (e + 1) * 61 + (y + 1) = (e + 1) * 61 + y + 1 by omega] at hry
    rw [← hry] at hrb
    refine k_il hK (q := 61)  dX8_left_59 rfl (z := (i : Nat)) rfl (k_aln hK (q := 62)  dX8_left_61 rfl (z := 32) rfl (k_gI hK (q := 65) (z := M 32 25) 0 dX8_left_62 rfl rf_X8_112 rfl rfl rfl rfl ?_))
    refine k_cge hK (q := 68) (t := 129) dX8_left_65 rfl rfl (fun h65 => ?_) (fun h65 => ?_)
    · exact absurd h65 (by omega)
    · refine k_aln hK (q := 69)  dX8_left_68 rfl (z := 32) rfl (k_gR hK (q := 72) (r := 48) dX8_left_69 rfl rf_X8_62 rfl rfl (k_il hK (q := 74)  dX8_left_72 rfl (z := (i : Nat)) rfl (k_ald hK (q := 75)  dX8_left_74 rfl (y := M 48 (i : Nat)) rfl (by omega) rfl ?_)))
      rw [g48]
      refine k_aln hK (q := 76)  dX8_left_75 rfl (z := 32) rfl (k_aln hK (q := 77)  dX8_left_76 rfl (z := 32) rfl (k_gR hK (q := 80) (r := 47) dX8_left_77 rfl rf_X8_59 rfl rfl (k_il hK (q := 82)  dX8_left_80 rfl (z := (i : Nat)) rfl (k_ald hK (q := 83)  dX8_left_82 rfl (y := M 47 (i : Nat)) rfl (by omega) rfl ?_))))
      rw [g47]
      refine k_iln hK (q := 84)  dX8_left_83 rfl (z := e) rfl ?_
      refine k_iv2I hK (q := 87) dX8_left_84 rfl rm_X8_149 rfl rfl (Nat.le_of_ble_eq_true rfl) (xm_wrong _ M y e S hs (by omega) (by omega)) ?_
      rw [h40]
      refine k_add hK (q := 88)  dX8_left_87 rfl (z := w + (wr S y pit)) rfl (by omega) (k_aln hK (q := 89)  dX8_left_88 rfl (z := 32) rfl (k_gR hK (q := 92) (r := 49) dX8_left_89 rfl rf_X8_65 rfl rfl (k_aln hK (q := 93)  dX8_left_92 rfl (z := 32) rfl (k_iln hK (q := 94)  dX8_left_93 rfl (z := e) rfl (k_ic hK (q := 95)  dX8_left_94 rfl (by decide) ?_)))))
      refine k_add hK (q := 96)  dX8_left_95 rfl (z := e + 1) rfl (by omega) (k_aln hK (q := 97)  dX8_left_96 rfl (z := 32) rfl (k_gR hK (q := 100) (r := 47) dX8_left_97 rfl rf_X8_59 rfl rfl (k_il hK (q := 102)  dX8_left_100 rfl (z := (i : Nat)) rfl (k_ald hK (q := 103)  dX8_left_102 rfl (y := M 47 (i : Nat)) rfl (by omega) rfl ?_))))
      rw [g47]
      refine k_iv2I hK (q := 106) dX8_left_103 rfl rm_X8_165 rfl rfl (Nat.le_of_ble_eq_true rfl) (xm_at _ M (e + 1) y (by omega) (by omega)) ?_
      refine k_ald hK (q := 107)  dX8_left_106 rfl (y := M 49 ((e + 1) * 61 + y + 1)) rfl (by omega) rfl (k_add hK (q := 108)  dX8_left_107 rfl (z := (w + (wr S y pit)) + (M 49 ((e + 1) * 61 + y + 1))) rfl (by omega) (k_is hK (q := 110)  dX8_left_108 rfl (L2 := [some (vR 32), some (vI e), some (vI p), some (vI c), some (vI (i : Nat)), some (vI ((w + (wr S y pit)) + (M 49 ((e + 1) * 61 + y + 1))))]) (Nat.le_of_ble_eq_true rfl) rfl (k_il hK (q := 112)  dX8_left_110 rfl (z := ((w + (wr S y pit)) + (M 49 ((e + 1) * 61 + y + 1)))) rfl (k_iln hK (q := 113)  dX8_left_112 rfl (z := c) rfl ?_))))
      refine k_cge hK (q := 116) (t := 121) dX8_left_113 rfl rfl (fun h113 => ?_) (fun h113 => ?_)
      · refine k_iln hK (q := 122)  dX8_left_121 rfl (z := c) rfl (k_isn hK (q := 123)  dX8_left_122 rfl (L2 := [some (vR 32), some (vI e), some (vI p), some (vI c), some (vI (i : Nat)), some (vI ((w + (wr S y pit)) + (M 49 ((e + 1) * 61 + y + 1))))]) (Nat.le_of_ble_eq_true rfl) rfl (k_inc hK (q := 126)  dX8_left_123 rfl (y := (i : Nat) + 1) (L2 := [some (vR 32), some (vI e), some (vI p), some (vI c), some (vI ((i : Nat) + 1)), some (vI ((w + (wr S y pit)) + (M 49 ((e + 1) * 61 + y + 1))))]) rfl rfl (by omega) rfl (k_goto hK (t := 59) dX8_left_126 rfl ?_)))
        refine k_weak hK (L2 := [some (vR 32), some (vI e), some (vI p), some (vI c), some (vI ((i : Nat) + 1)), none]) ⟨Or.inl rfl, Or.inl rfl, Or.inl rfl, Or.inl rfl, Or.inl rfl, Or.inr rfl, trivial⟩ ?_
        refine ih (i + 1) _ (by omega) ?_
        rw [b1_take hey, ← hc, ← hry]
        omega
      · refine k_il hK (q := 118)  dX8_left_116 rfl (z := ((w + (wr S y pit)) + (M 49 ((e + 1) * 61 + y + 1)))) rfl (k_goto hK (t := 122) dX8_left_118 rfl (k_isn hK (q := 123)  dX8_left_122 rfl (L2 := [some (vR 32), some (vI e), some (vI p), some (vI ((w + (wr S y pit)) + (M 49 ((e + 1) * 61 + y + 1)))), some (vI (i : Nat)), some (vI ((w + (wr S y pit)) + (M 49 ((e + 1) * 61 + y + 1))))]) (Nat.le_of_ble_eq_true rfl) rfl (k_inc hK (q := 126)  dX8_left_123 rfl (y := (i : Nat) + 1) (L2 := [some (vR 32), some (vI e), some (vI p), some (vI ((w + (wr S y pit)) + (M 49 ((e + 1) * 61 + y + 1)))), some (vI ((i : Nat) + 1)), some (vI ((w + (wr S y pit)) + (M 49 ((e + 1) * 61 + y + 1))))]) rfl rfl (by omega) rfl (k_goto hK (t := 59) dX8_left_126 rfl ?_))))
        refine k_weak hK (L2 := [some (vR 32), some (vI e), some (vI p), some (vI ((w + (wr S y pit)) + (M 49 ((e + 1) * 61 + y + 1)))), some (vI ((i : Nat) + 1)), none]) ⟨Or.inl rfl, Or.inl rfl, Or.inl rfl, Or.inl rfl, Or.inl rfl, Or.inr rfl, trivial⟩ ?_
        refine ih (i + 1) _ (by omega) ?_
        rw [b1_take hey, ← hc, ← hry]
        omega

set_option maxRecDepth 20000 in
set_option maxHeartbeats 2000000 in
theorem left_l {d : Nat} {Q : Option ra_V → ra_M → Prop} {K : Nat → ra_L → List ra_V → ra_M → Prop} (hK : ra_Clo (Ex d) m_X8_left cX8_left Q K) {S : Sc} (hS : okSc S) {M : ra_M} (hs : scM M = S) {p e pit c0 : Int} {r1 : Int → Int} (he : 0 ≤ e ∧ e < 120) (h40 : M 40 e = pit) (hr1 : ∀ j, pn S j → M 49 ((e + 1) * 61 + j) = r1 j ∧ 0 ≤ r1 j ∧ r1 j ≤ 200000)
    (hX : ∀ i, K 205 [some (vR 32), some (vI e), some (vI p), some (vI (b2 S pit r1 c0 (S 0 0).toNat)), some (vI i), none] [] M) :
    ∀ (n i : Nat) (c : Int), i + n = (S 0 0).toNat → c = b2 S pit r1 c0 i → K 132 [some (vR 32), some (vI e), some (vI p), some (vI c), some (vI (i : Nat)), none] [] M := by
  have hNV : NV = 1000000000 := rfl
  have hs0 := hS.1
  obtain ⟨e5, e6, e7, e8, e9⟩ := scM_e hs
  obtain ⟨a2, a3, a4, a5, a6⟩ := scM_a hs
  have hc4 := hS.2.2.2.2.2.2.2.1 4 (by omega) (by omega)
  have e4 : M 39 4 = S 5 4 := by rw [a6]
  intro n
  induction n with
  | zero =>
    intro i c hi hc
    refine k_il hK (q := 134)  dX8_left_132 rfl (z := (i : Nat)) rfl (k_aln hK (q := 135)  dX8_left_134 rfl (z := 32) rfl (k_gI hK (q := 138) (z := M 32 4) 0 dX8_left_135 rfl rf_X8_86 rfl rfl rfl rfl ?_))
    refine k_cge hK (q := 141) (t := 205) dX8_left_138 rfl rfl (fun h138 => ?_) (fun h138 => ?_)
    · have hi2 : i = (S 0 0).toNat := by omega
      subst hi2
      subst hc
      exact hX _
    · exact absurd h138 (by omega)
  | succ n ih =>
    intro i c hi hc
    have hw := wr_in hS (i : Nat) pit
    obtain ⟨hri, hrb⟩ := hr1 ((i : Nat) + 1) ⟨by omega, by omega⟩
    rw [show (e + 1) * 61 + ((i : Nat) + 1 : Int) = (e + 1) * 61 + (i : Nat) + 1 by omega] at hri
    rw [← hri] at hrb
    refine k_il hK (q := 134)  dX8_left_132 rfl (z := (i : Nat)) rfl (k_aln hK (q := 135)  dX8_left_134 rfl (z := 32) rfl (k_gI hK (q := 138) (z := M 32 4) 0 dX8_left_135 rfl rf_X8_86 rfl rfl rfl rfl ?_))
    refine k_cge hK (q := 141) (t := 205) dX8_left_138 rfl rfl (fun h138 => ?_) (fun h138 => ?_)
    · exact absurd h138 (by omega)
    · refine k_aln hK (q := 142)  dX8_left_141 rfl (z := 32) rfl (k_il hK (q := 144)  dX8_left_142 rfl (z := (i : Nat)) rfl ?_)
      refine k_iv1I hK (q := 147) dX8_left_144 rfl rm_X8_115 rfl rfl (Nat.le_of_ble_eq_true rfl) (t_isThere _ M (i : Nat)) ?_
      refine k_ifeq hK (q := 150) (t := 182) dX8_left_147 rfl rfl (fun h147 => ?_) (fun h147 => ?_)
      · have h147 := bi_0.mp h147
        refine k_ldc hK (q := 184)  dX8_left_182 rfl rc_X8_123 (k_is hK (q := 186)  dX8_left_184 rfl (L2 := [some (vR 32), some (vI e), some (vI p), some (vI c), some (vI (i : Nat)), some (vI 1000000000)]) (Nat.le_of_ble_eq_true rfl) rfl (k_il hK (q := 188)  dX8_left_186 rfl (z := 1000000000) rfl (k_iln hK (q := 189)  dX8_left_188 rfl (z := c) rfl ?_)))
        refine k_cge hK (q := 192) (t := 197) dX8_left_189 rfl rfl (fun h189 => ?_) (fun h189 => ?_)
        · refine k_iln hK (q := 198)  dX8_left_197 rfl (z := c) rfl (k_isn hK (q := 199)  dX8_left_198 rfl (L2 := [some (vR 32), some (vI e), some (vI p), some (vI c), some (vI (i : Nat)), some (vI 1000000000)]) (Nat.le_of_ble_eq_true rfl) rfl (k_inc hK (q := 202)  dX8_left_199 rfl (y := (i : Nat) + 1) (L2 := [some (vR 32), some (vI e), some (vI p), some (vI c), some (vI ((i : Nat) + 1)), some (vI 1000000000)]) rfl rfl (by omega) rfl (k_goto hK (t := 132) dX8_left_202 rfl ?_)))
          refine k_weak hK (L2 := [some (vR 32), some (vI e), some (vI p), some (vI c), some (vI ((i : Nat) + 1)), none]) ⟨Or.inl rfl, Or.inl rfl, Or.inl rfl, Or.inl rfl, Or.inl rfl, Or.inr rfl, trivial⟩ ?_
          refine ih (i + 1) _ (by omega) ?_
          simp only [b2]
          rw [← hc]
          rw [if_neg (fun q => h147 ((thr_M hs _).mpr q))]
          omega
        · refine k_il hK (q := 194)  dX8_left_192 rfl (z := 1000000000) rfl (k_goto hK (t := 198) dX8_left_194 rfl (k_isn hK (q := 199)  dX8_left_198 rfl (L2 := [some (vR 32), some (vI e), some (vI p), some (vI 1000000000), some (vI (i : Nat)), some (vI 1000000000)]) (Nat.le_of_ble_eq_true rfl) rfl (k_inc hK (q := 202)  dX8_left_199 rfl (y := (i : Nat) + 1) (L2 := [some (vR 32), some (vI e), some (vI p), some (vI 1000000000), some (vI ((i : Nat) + 1)), some (vI 1000000000)]) rfl rfl (by omega) rfl (k_goto hK (t := 132) dX8_left_202 rfl ?_))))
          refine k_weak hK (L2 := [some (vR 32), some (vI e), some (vI p), some (vI 1000000000), some (vI ((i : Nat) + 1)), none]) ⟨Or.inl rfl, Or.inl rfl, Or.inl rfl, Or.inl rfl, Or.inl rfl, Or.inr rfl, trivial⟩ ?_
          refine ih (i + 1) _ (by omega) ?_
          simp only [b2]
          rw [← hc]
          rw [if_neg (fun q => h147 ((thr_M hs _).mpr q))]
          omega
      · have h147 := bi_1.mp h147
        refine k_aln hK (q := 151)  dX8_left_150 rfl (z := 32) rfl (k_gR hK (q := 154) (r := 39) dX8_left_151 rfl rf_X8_35 rfl rfl (k_ic hK (q := 155)  dX8_left_154 rfl (by decide) (k_ald hK (q := 156)  dX8_left_155 rfl (y := M 39 4) rfl (by omega) rfl (k_aln hK (q := 157)  dX8_left_156 rfl (z := 32) rfl (k_il hK (q := 159)  dX8_left_157 rfl (z := (i : Nat)) rfl ?_)))))
        refine k_iln hK (q := 160)  dX8_left_159 rfl (z := e) rfl ?_
        refine k_iv2I hK (q := 163) dX8_left_160 rfl rm_X8_149 rfl rfl (Nat.le_of_ble_eq_true rfl) (xm_wrong _ M (i : Nat) e S hs (by omega) (by omega)) ?_
        rw [h40]
        refine k_add hK (q := 164)  dX8_left_163 rfl (z := (M 39 4) + (wr S (i : Nat) pit)) rfl (by omega) (k_aln hK (q := 165)  dX8_left_164 rfl (z := 32) rfl (k_gR hK (q := 168) (r := 49) dX8_left_165 rfl rf_X8_65 rfl rfl (k_aln hK (q := 169)  dX8_left_168 rfl (z := 32) rfl (k_iln hK (q := 170)  dX8_left_169 rfl (z := e) rfl (k_ic hK (q := 171)  dX8_left_170 rfl (by decide) ?_)))))
        refine k_add hK (q := 172)  dX8_left_171 rfl (z := e + 1) rfl (by omega) (k_il hK (q := 174)  dX8_left_172 rfl (z := (i : Nat)) rfl ?_)
        refine k_iv2I hK (q := 177) dX8_left_174 rfl rm_X8_165 rfl rfl (Nat.le_of_ble_eq_true rfl) (xm_at _ M (e + 1) (i : Nat) (by omega) (by omega)) ?_
        refine k_ald hK (q := 178)  dX8_left_177 rfl (y := M 49 ((e + 1) * 61 + (i : Nat) + 1)) rfl (by omega) rfl (k_add hK (q := 179)  dX8_left_178 rfl (z := ((M 39 4) + (wr S (i : Nat) pit)) + (M 49 ((e + 1) * 61 + (i : Nat) + 1))) rfl (by omega) (k_goto hK (t := 184) dX8_left_179 rfl (k_is hK (q := 186)  dX8_left_184 rfl (L2 := [some (vR 32), some (vI e), some (vI p), some (vI c), some (vI (i : Nat)), some (vI (((M 39 4) + (wr S (i : Nat) pit)) + (M 49 ((e + 1) * 61 + (i : Nat) + 1))))]) (Nat.le_of_ble_eq_true rfl) rfl (k_il hK (q := 188)  dX8_left_186 rfl (z := (((M 39 4) + (wr S (i : Nat) pit)) + (M 49 ((e + 1) * 61 + (i : Nat) + 1)))) rfl (k_iln hK (q := 189)  dX8_left_188 rfl (z := c) rfl ?_)))))
        refine k_cge hK (q := 192) (t := 197) dX8_left_189 rfl rfl (fun h189 => ?_) (fun h189 => ?_)
        · refine k_iln hK (q := 198)  dX8_left_197 rfl (z := c) rfl (k_isn hK (q := 199)  dX8_left_198 rfl (L2 := [some (vR 32), some (vI e), some (vI p), some (vI c), some (vI (i : Nat)), some (vI (((M 39 4) + (wr S (i : Nat) pit)) + (M 49 ((e + 1) * 61 + (i : Nat) + 1))))]) (Nat.le_of_ble_eq_true rfl) rfl (k_inc hK (q := 202)  dX8_left_199 rfl (y := (i : Nat) + 1) (L2 := [some (vR 32), some (vI e), some (vI p), some (vI c), some (vI ((i : Nat) + 1)), some (vI (((M 39 4) + (wr S (i : Nat) pit)) + (M 49 ((e + 1) * 61 + (i : Nat) + 1))))]) rfl rfl (by omega) rfl (k_goto hK (t := 132) dX8_left_202 rfl ?_)))
          refine k_weak hK (L2 := [some (vR 32), some (vI e), some (vI p), some (vI c), some (vI ((i : Nat) + 1)), none]) ⟨Or.inl rfl, Or.inl rfl, Or.inl rfl, Or.inl rfl, Or.inl rfl, Or.inr rfl, trivial⟩ ?_
          refine ih (i + 1) _ (by omega) ?_
          simp only [b2]
          rw [← hc]
          rw [if_pos ((thr_M hs _).mp h147), ← hri, ← e4]
          omega
        · refine k_il hK (q := 194)  dX8_left_192 rfl (z := (((M 39 4) + (wr S (i : Nat) pit)) + (M 49 ((e + 1) * 61 + (i : Nat) + 1)))) rfl (k_goto hK (t := 198) dX8_left_194 rfl (k_isn hK (q := 199)  dX8_left_198 rfl (L2 := [some (vR 32), some (vI e), some (vI p), some (vI (((M 39 4) + (wr S (i : Nat) pit)) + (M 49 ((e + 1) * 61 + (i : Nat) + 1)))), some (vI (i : Nat)), some (vI (((M 39 4) + (wr S (i : Nat) pit)) + (M 49 ((e + 1) * 61 + (i : Nat) + 1))))]) (Nat.le_of_ble_eq_true rfl) rfl (k_inc hK (q := 202)  dX8_left_199 rfl (y := (i : Nat) + 1) (L2 := [some (vR 32), some (vI e), some (vI p), some (vI (((M 39 4) + (wr S (i : Nat) pit)) + (M 49 ((e + 1) * 61 + (i : Nat) + 1)))), some (vI ((i : Nat) + 1)), some (vI (((M 39 4) + (wr S (i : Nat) pit)) + (M 49 ((e + 1) * 61 + (i : Nat) + 1))))]) rfl rfl (by omega) rfl (k_goto hK (t := 132) dX8_left_202 rfl ?_))))
          refine k_weak hK (L2 := [some (vR 32), some (vI e), some (vI p), some (vI (((M 39 4) + (wr S (i : Nat) pit)) + (M 49 ((e + 1) * 61 + (i : Nat) + 1)))), some (vI ((i : Nat) + 1)), none]) ⟨Or.inl rfl, Or.inl rfl, Or.inl rfl, Or.inl rfl, Or.inl rfl, Or.inr rfl, trivial⟩ ?_
          refine ih (i + 1) _ (by omega) ?_
          simp only [b2]
          rw [← hc]
          rw [if_pos ((thr_M hs _).mp h147), ← hri, ← e4]
          omega

set_option maxRecDepth 20000 in
set_option maxHeartbeats 2000000 in
theorem left_a {d : Nat} {Q : Option ra_V → ra_M → Prop} {K : Nat → ra_L → List ra_V → ra_M → Prop} (hK : ra_Clo (Ex (d + 1)) m_X8_left cX8_left Q K) {S : Sc} (hS : okSc S) {M0 : ra_M} {e pit cnt : Int} {r1 : Int → Int} (he : 0 ≤ e ∧ e < 120) (hec : e < cnt) (h40 : M0 40 e = pit) (h14 : M0 32 14 = cnt) (hr1 : ∀ j, pn S j → M0 49 ((e + 1) * 61 + j) = r1 j ∧ 0 ≤ r1 j ∧ r1 j ≤ 200000)
    (hX : ∀ (M : ra_M), (∀ j, pn S j → M 49 (e * 61 + j) = bM S pit r1 j) → scM M = S → off9 e M0 M → frM [47, 48, 49] [25] M0 M → ∀ z, K 223 [some (vR 32), some (vI e), some (vI z), none, none, none] [] M) :
    ∀ (m n : Nat) (M : ra_M), n + m = (S 0 0).toNat + 1 → scM M = S → (∀ t : Nat, t < n → M 49 (e * 61 + (t : Nat)) = bM S pit r1 (t : Nat)) → off9 e M0 M → frM [47, 48, 49] [25] M0 M → K 2 [some (vR 32), some (vI e), some (vI (((n : Nat) : Int) - 1)), none, none, none] [] M := by
  have hs0 := hS.1
  intro m
  induction m with
  | zero =>
    intro n M hn hs hrow ho hf
    obtain ⟨e5, e6, e7, e8, e9⟩ := scM_e hs
    refine k_iln hK (q := 3)  dX8_left_2 rfl (z := (((n : Nat) : Int) - 1)) rfl (k_aln hK (q := 4)  dX8_left_3 rfl (z := 32) rfl (k_gI hK (q := 7) (z := M 32 4) 0 dX8_left_4 rfl rf_X8_86 rfl rfl rfl rfl ?_))
    refine k_cge hK (q := 10) (t := 223) dX8_left_7 rfl rfl (fun h7 => ?_) (fun h7 => ?_)
    · exact hX M (fun j hj => by have := hrow j.toNat (by have := hj.1; have := hj.2; omega); rw [show ((j.toNat : Nat) : Int) = j by have := hj.1; omega] at this; exact this) hs ho hf _
    · exact absurd h7 (by omega)
  | succ m ih =>
    intro n M hn hs hrow ho hf
    obtain ⟨e5, e6, e7, e8, e9⟩ := scM_e hs
    obtain ⟨a2, a3, a4, a5, a6⟩ := scM_a hs
    have hc1 := hS.2.2.2.2.2.2.2.1 1 (by omega) (by omega)
    have e1 : M 39 1 = S 5 1 := by rw [a6]
    have q14 : M 32 14 = cnt := by rw [hf.2 14 (by decide)]; exact h14
    have h40m : M 40 e = pit := by rw [hf.1 40 (by decide) (by decide)]; exact h40
    have hp9 : ((n : Nat) : Int) - 1 + 1 = ((n + 1 : Nat) : Int) - 1 := by omega
    have hr1m : ∀ j, pn S j → M 49 ((e + 1) * 61 + j) = r1 j ∧ 0 ≤ r1 j ∧ r1 j ≤ 200000 := fun j hj => by rw [ho _ (Or.inr (by have := hj.1; omega))]; exact hr1 j hj
    have hrn := hr1m (n : Nat) ⟨by omega, by omega⟩
    rw [show (e + 1) * 61 + ((n : Nat) : Int) = (e + 1) * 61 + (((n : Nat) : Int) - 1) + 1 by omega] at hrn
    refine k_iln hK (q := 3)  dX8_left_2 rfl (z := (((n : Nat) : Int) - 1)) rfl (k_aln hK (q := 4)  dX8_left_3 rfl (z := 32) rfl (k_gI hK (q := 7) (z := M 32 4) 0 dX8_left_4 rfl rf_X8_86 rfl rfl rfl rfl ?_))
    refine k_cge hK (q := 10) (t := 223) dX8_left_7 rfl rfl (fun h7 => ?_) (fun h7 => ?_)
    · exact absurd h7 (by omega)
    · refine k_iln hK (q := 11)  dX8_left_10 rfl (z := e) rfl (k_aln hK (q := 12)  dX8_left_11 rfl (z := 32) rfl (k_gI hK (q := 15) (z := M 32 14) 0 dX8_left_12 rfl rf_X8_101 rfl rfl rfl rfl ?_))
      refine k_cne hK (q := 18) (t := 22) dX8_left_15 rfl rfl (fun h15 => ?_) (fun h15 => ?_)
      · refine k_aln hK (q := 23)  dX8_left_22 rfl (z := 32) rfl (k_gR hK (q := 26) (r := 39) dX8_left_23 rfl rf_X8_35 rfl rfl (k_ic hK (q := 27)  dX8_left_26 rfl (by decide) (k_ald hK (q := 28)  dX8_left_27 rfl (y := M 39 1) rfl (by omega) rfl (k_aln hK (q := 29)  dX8_left_28 rfl (z := 32) rfl (k_gR hK (q := 32) (r := 49) dX8_left_29 rfl rf_X8_65 rfl rfl ?_)))))
        refine k_aln hK (q := 33)  dX8_left_32 rfl (z := 32) rfl (k_iln hK (q := 34)  dX8_left_33 rfl (z := e) rfl (k_ic hK (q := 35)  dX8_left_34 rfl (by decide) (k_add hK (q := 36)  dX8_left_35 rfl (z := e + 1) rfl (by omega) (k_iln hK (q := 37)  dX8_left_36 rfl (z := (((n : Nat) : Int) - 1)) rfl ?_))))
        refine k_iv2I hK (q := 40) dX8_left_37 rfl rm_X8_165 rfl rfl (Nat.le_of_ble_eq_true rfl) (xm_at _ M (e + 1) (((n : Nat) : Int) - 1) (by omega) (by omega)) ?_
        refine k_ald hK (q := 41)  dX8_left_40 rfl (y := M 49 ((e + 1) * 61 + (((n : Nat) : Int) - 1) + 1)) rfl (by omega) rfl (k_add hK (q := 42)  dX8_left_41 rfl (z := (M 39 1) + (M 49 ((e + 1) * 61 + (((n : Nat) : Int) - 1) + 1))) rfl (by omega) (k_isn hK (q := 43)  dX8_left_42 rfl (L2 := [some (vR 32), some (vI e), some (vI (((n : Nat) : Int) - 1)), some (vI ((M 39 1) + (M 49 ((e + 1) * 61 + (((n : Nat) : Int) - 1) + 1)))), none, none]) (Nat.le_of_ble_eq_true rfl) rfl (k_iln hK (q := 44)  dX8_left_43 rfl (z := e) rfl (k_aln hK (q := 45)  dX8_left_44 rfl (z := 32) rfl (k_gI hK (q := 48) (z := M 32 14) 0 dX8_left_45 rfl rf_X8_101 rfl rfl rfl rfl ?_)))))
        refine k_cge hK (q := 51) (t := 205) dX8_left_48 rfl rfl (fun h48 => ?_) (fun h48 => ?_)
        · exact absurd h48 (by omega)
        · refine k_aln hK (q := 52)  dX8_left_51 rfl (z := 32) rfl (k_iln hK (q := 53)  dX8_left_52 rfl (z := (((n : Nat) : Int) - 1)) rfl ?_)
          refine k_iv1 hK (q := 56) dX8_left_53 rfl rm_X8_146 rfl rfl (Nat.le_of_ble_eq_true rfl) (xm_nextsOf _ M (((n : Nat) : Int) - 1) S hs hS (by omega)) (fun r9 M5 h9 => ?_)
          obtain ⟨rfl, hn5, hf5⟩ := h9
          have q49 : M5 49 = M 49 := hf5.1 49 (by decide) (by decide)
          have hs5 : scM M5 = S := by rw [scM_fr hf5 (by decide) (by decide)]; exact hs
          have h405 : M5 40 e = pit := by rw [hf5.1 40 (by decide) (by decide)]; exact h40m
          have hr15 : ∀ j, pn S j → M5 49 ((e + 1) * 61 + j) = r1 j ∧ 0 ≤ r1 j ∧ r1 j ≤ 200000 := by rw [q49]; exact hr1m
          show K 56 [some (vR 32), some (vI e), some (vI (((n : Nat) : Int) - 1)), some (vI ((M 39 1) + (M 49 ((e + 1) * 61 + (((n : Nat) : Int) - 1) + 1)))), none, none] [] M5
          refine k_ic hK (q := 57)  dX8_left_56 rfl (by decide) (k_is hK (q := 59)  dX8_left_57 rfl (L2 := [some (vR 32), some (vI e), some (vI (((n : Nat) : Int) - 1)), some (vI ((M 39 1) + (M 49 ((e + 1) * 61 + (((n : Nat) : Int) - 1) + 1)))), some (vI 0), none]) (Nat.le_of_ble_eq_true rfl) rfl ?_)
          obtain ⟨C1, hC1e⟩ : ∃ C1, C1 = b1 S pit r1 (nx S (((n : Nat) : Int) - 1)) (M 39 1 + M 49 ((e + 1) * 61 + (((n : Nat) : Int) - 1) + 1)) := ⟨_, rfl⟩
          have hC1 : b2 S pit r1 C1 (S 0 0).toNat = bM S pit r1 (n : Nat) := by
            unfold bM
            rw [hC1e, e1, hrn.1]
          have J205 : ∀ z2, K 205 [some (vR 32), some (vI e), some (vI (((n : Nat) : Int) - 1)), some (vI (b2 S pit r1 C1 (S 0 0).toNat)), some (vI z2), none] [] M5 := by
            intro z2
            refine k_aln hK (q := 206)  dX8_left_205 rfl (z := 32) rfl (k_gR hK (q := 209) (r := 49) dX8_left_206 rfl rf_X8_65 rfl rfl (k_aln hK (q := 210)  dX8_left_209 rfl (z := 32) rfl (k_iln hK (q := 211)  dX8_left_210 rfl (z := e) rfl (k_iln hK (q := 212)  dX8_left_211 rfl (z := (((n : Nat) : Int) - 1)) rfl ?_))))
            refine k_iv2I hK (q := 215) dX8_left_212 rfl rm_X8_165 rfl rfl (Nat.le_of_ble_eq_true rfl) (xm_at _ M5 e (((n : Nat) : Int) - 1) (by omega) (by omega)) ?_
            refine k_iln hK (q := 216)  dX8_left_215 rfl (z := (b2 S pit r1 C1 (S 0 0).toNat)) rfl (k_ast hK (q := 217)  dX8_left_216 rfl rfl (by omega) (k_inc hK (q := 220)  dX8_left_217 rfl (y := (((n : Nat) : Int) - 1) + 1) (L2 := [some (vR 32), some (vI e), some (vI ((((n : Nat) : Int) - 1) + 1)), some (vI (b2 S pit r1 C1 (S 0 0).toNat)), some (vI z2), none]) rfl rfl (by omega) rfl (k_goto hK (t := 2) dX8_left_220 rfl ?_)))
            refine k_weak hK (L2 := [some (vR 32), some (vI e), some (vI ((((n : Nat) : Int) - 1) + 1)), none, none, none]) ⟨Or.inl rfl, Or.inl rfl, Or.inl rfl, Or.inr rfl, Or.inr rfl, Or.inl rfl, trivial⟩ ?_
            rw [hp9]
            refine ih (n + 1) _ (by omega) (by rw [scM_fr (M := M5) (frM_up (frM_refl [49] [] _) _ _ (by decide) (by decide)) (by decide) (by decide)]; exact hs5) (fun t ht => ?_) (off9_up (off9_eq ho q49) (by omega)) (frM_up (frM_trans hf (frM_sub hf5 (by decide) (by decide))) _ _ (by decide) (by decide))
            by_cases h : t = n
            · subst h
              rw [show e * 61 + ((t : Nat) : Int) = e * 61 + (((t : Nat) : Int) - 1) + 1 by omega, up_same]
              exact hC1
            · rw [up_j _ _ (by omega), q49]
              exact hrow t (by omega)
          have J129 : ∀ z1, K 129 [some (vR 32), some (vI e), some (vI (((n : Nat) : Int) - 1)), some (vI C1), some (vI z1), none] [] M5 := by
            intro z1
            refine k_ic hK (q := 130)  dX8_left_129 rfl (by decide) (k_is hK (q := 132)  dX8_left_130 rfl (L2 := [some (vR 32), some (vI e), some (vI (((n : Nat) : Int) - 1)), some (vI C1), some (vI 0), none]) (Nat.le_of_ble_eq_true rfl) rfl ?_)
            exact left_l hK hS hs5 (p := ((n : Nat) : Int) - 1) (c0 := C1) he h405 hr15 J205 (S 0 0).toNat 0 _ (by omega) rfl
          rw [hC1e] at J129
          exact left_p hK hS hs5 (p := ((n : Nat) : Int) - 1) he h405 hn5 hr15 J129 (nx S (((n : Nat) : Int) - 1)).length 0 _ (by omega) rfl
      · exact absurd h15 (by omega)

set_option maxRecDepth 20000 in
set_option maxHeartbeats 2000000 in
theorem left_z {d : Nat} {Q : Option ra_V → ra_M → Prop} {K : Nat → ra_L → List ra_V → ra_M → Prop} (hK : ra_Clo (Ex d) m_X8_left cX8_left Q K) {S : Sc} (hS : okSc S) {M0 : ra_M} {e : Int} (he : 0 ≤ e ∧ e ≤ 120) (h14 : M0 32 14 = e)
    (hX : ∀ (M : ra_M), (∀ j, pn S j → M 49 (e * 61 + j) = 0) → scM M = S → off9 e M0 M → frM [47, 48, 49] [25] M0 M → ∀ z, K 223 [some (vR 32), some (vI e), some (vI z), none, none, none] [] M) :
    ∀ (m n : Nat) (M : ra_M), n + m = (S 0 0).toNat + 1 → scM M = S → (∀ t : Nat, t < n → M 49 (e * 61 + (t : Nat)) = 0) → off9 e M0 M → frM [47, 48, 49] [25] M0 M → K 2 [some (vR 32), some (vI e), some (vI (((n : Nat) : Int) - 1)), none, none, none] [] M := by
  have hs0 := hS.1
  intro m
  induction m with
  | zero =>
    intro n M hn hs hrow ho hf
    obtain ⟨e5, e6, e7, e8, e9⟩ := scM_e hs
    refine k_iln hK (q := 3)  dX8_left_2 rfl (z := (((n : Nat) : Int) - 1)) rfl (k_aln hK (q := 4)  dX8_left_3 rfl (z := 32) rfl (k_gI hK (q := 7) (z := M 32 4) 0 dX8_left_4 rfl rf_X8_86 rfl rfl rfl rfl ?_))
    refine k_cge hK (q := 10) (t := 223) dX8_left_7 rfl rfl (fun h7 => ?_) (fun h7 => ?_)
    · exact hX M (fun j hj => by have := hrow j.toNat (by have := hj.1; have := hj.2; omega); rw [show ((j.toNat : Nat) : Int) = j by have := hj.1; omega] at this; exact this) hs ho hf _
    · exact absurd h7 (by omega)
  | succ m ih =>
    intro n M hn hs hrow ho hf
    obtain ⟨e5, e6, e7, e8, e9⟩ := scM_e hs
    have q14 : M 32 14 = e := by rw [hf.2 14 (by decide)]; exact h14
    have hp9 : ((n : Nat) : Int) - 1 + 1 = ((n + 1 : Nat) : Int) - 1 := by omega
    refine k_iln hK (q := 3)  dX8_left_2 rfl (z := (((n : Nat) : Int) - 1)) rfl (k_aln hK (q := 4)  dX8_left_3 rfl (z := 32) rfl (k_gI hK (q := 7) (z := M 32 4) 0 dX8_left_4 rfl rf_X8_86 rfl rfl rfl rfl ?_))
    refine k_cge hK (q := 10) (t := 223) dX8_left_7 rfl rfl (fun h7 => ?_) (fun h7 => ?_)
    · exact absurd h7 (by omega)
    · refine k_iln hK (q := 11)  dX8_left_10 rfl (z := e) rfl (k_aln hK (q := 12)  dX8_left_11 rfl (z := 32) rfl (k_gI hK (q := 15) (z := M 32 14) 0 dX8_left_12 rfl rf_X8_101 rfl rfl rfl rfl ?_))
      refine k_cne hK (q := 18) (t := 22) dX8_left_15 rfl rfl (fun h15 => ?_) (fun h15 => ?_)
      · exact absurd h15 (by omega)
      · refine k_ic hK (q := 19)  dX8_left_18 rfl (by decide) (k_goto hK (t := 42) dX8_left_19 rfl (k_isn hK (q := 43)  dX8_left_42 rfl (L2 := [some (vR 32), some (vI e), some (vI (((n : Nat) : Int) - 1)), some (vI 0), none, none]) (Nat.le_of_ble_eq_true rfl) rfl (k_iln hK (q := 44)  dX8_left_43 rfl (z := e) rfl (k_aln hK (q := 45)  dX8_left_44 rfl (z := 32) rfl (k_gI hK (q := 48) (z := M 32 14) 0 dX8_left_45 rfl rf_X8_101 rfl rfl rfl rfl ?_)))))
        refine k_cge hK (q := 51) (t := 205) dX8_left_48 rfl rfl (fun h48 => ?_) (fun h48 => ?_)
        · refine k_aln hK (q := 206)  dX8_left_205 rfl (z := 32) rfl (k_gR hK (q := 209) (r := 49) dX8_left_206 rfl rf_X8_65 rfl rfl (k_aln hK (q := 210)  dX8_left_209 rfl (z := 32) rfl (k_iln hK (q := 211)  dX8_left_210 rfl (z := e) rfl (k_iln hK (q := 212)  dX8_left_211 rfl (z := (((n : Nat) : Int) - 1)) rfl ?_))))
          refine k_iv2I hK (q := 215) dX8_left_212 rfl rm_X8_165 rfl rfl (Nat.le_of_ble_eq_true rfl) (xm_at _ M e (((n : Nat) : Int) - 1) (by omega) (by omega)) ?_
          refine k_iln hK (q := 216)  dX8_left_215 rfl (z := 0) rfl (k_ast hK (q := 217)  dX8_left_216 rfl rfl (by omega) (k_inc hK (q := 220)  dX8_left_217 rfl (y := (((n : Nat) : Int) - 1) + 1) (L2 := [some (vR 32), some (vI e), some (vI ((((n : Nat) : Int) - 1) + 1)), some (vI 0), none, none]) rfl rfl (by omega) rfl (k_goto hK (t := 2) dX8_left_220 rfl ?_)))
          refine k_weak hK (L2 := [some (vR 32), some (vI e), some (vI ((((n : Nat) : Int) - 1) + 1)), none, none, none]) ⟨Or.inl rfl, Or.inl rfl, Or.inl rfl, Or.inr rfl, Or.inl rfl, Or.inl rfl, trivial⟩ ?_
          rw [hp9]
          refine ih (n + 1) _ (by omega) (by rw [scM_fr (M := M) (frM_up (frM_refl [49] [] _) _ _ (by decide) (by decide)) (by decide) (by decide)]; exact hs) (fun t ht => ?_) (off9_up ho (by omega)) (frM_up hf _ _ (by decide) (by decide))
          by_cases h : t = n
          · subst h
            rw [show e * 61 + ((t : Nat) : Int) = e * 61 + (((t : Nat) : Int) - 1) + 1 by omega, up_same]
          · rw [up_j _ _ (by omega)]
            exact hrow t (by omega)
        · exact absurd h48 (by omega)

set_option maxRecDepth 20000 in
set_option maxHeartbeats 2000000 in
theorem xm_left_a (d : Nat) (M : ra_M) (e : Int) (S : Sc) (hs : scM M = S) (hS : okSc S) (pit cnt : Int) (r1 : Int → Int) (he : 0 ≤ e ∧ e < 120) (hec : e < cnt) (h40 : M 40 e = pit) (h14 : M 32 14 = cnt) (hr1 : ∀ j, pn S j → M 49 ((e + 1) * 61 + j) = r1 j ∧ 0 ≤ r1 j ∧ r1 j ≤ 150000) : Ex (d + 2) m_X8_left [vR 32, vI e] M (fun r M2 => r = none ∧ (∃ b, (∀ j, pn S j → b j = bM S pit r1 j) ∧ r49 M2 e = rep ((Ew S).map (bk S)) 61 b) ∧ off9 e M M2 ∧ frM [47, 48, 49] [25] M M2) := by
  refine Ex_call (Nat.le_of_ble_eq_true rfl) (fun K hK => ?_)
  show K 0 [some (vR 32), some (vI e), none, none, none, none] [] M
  have hK : ra_Clo _ m_X8_left cX8_left _ K := hK
  have k1 := hS.2.2.2.2.2.2.2.1 1 (by omega) (by omega)
  refine k_ic hK (q := 1)  dX8_left_0 rfl (by decide) (k_isn hK (q := 2)  dX8_left_1 rfl (L2 := [some (vR 32), some (vI e), some (vI (-1)), none, none, none]) (Nat.le_of_ble_eq_true rfl) rfl ?_)
  refine left_a hK hS (M0 := M) he hec h40 h14 (fun j hj => by have := hr1 j hj; exact ⟨this.1, this.2.1, by omega⟩) (fun M1 h1 hs1 ho1 hf1 z => ?_) ((S 0 0).toNat + 1) 0 M (by omega) hs (fun t ht => by omega) (fun z _ => rfl) (frM_refl _ _ _)
  refine left_while hK hS hs1 (by omega) (b := r49 M1 e) (fun j hj => ?_) rfl (fun M2 h2 ho2 hf2 => ⟨rfl, ⟨_, h1, h2⟩, fun z hz => (ho2 z hz).trans (ho1 z hz), frM_trans hf1 hf2⟩) z
  have hb := bM_nn hS (pit := pit) (r1 := r1) (fun j hj => by have := hr1 j hj; exact ⟨this.2.1, by omega⟩) hj
  have hb2 := bM_le S pit r1 j
  have hb3 := hr1 j hj
  have hb4 : r49 M1 e j = bM S pit r1 j := h1 j hj
  omega

set_option maxRecDepth 20000 in
set_option maxHeartbeats 2000000 in
theorem xm_left_z (d : Nat) (M : ra_M) (e : Int) (S : Sc) (hs : scM M = S) (hS : okSc S) (he : 0 ≤ e ∧ e ≤ 120) (h14 : M 32 14 = e) : Ex (d + 2) m_X8_left [vR 32, vI e] M (fun r M2 => r = none ∧ (∀ j, pn S j → M2 49 (e * 61 + j) = 0) ∧ off9 e M M2 ∧ frM [47, 48, 49] [25] M M2) := by
  refine Ex_call (Nat.le_of_ble_eq_true rfl) (fun K hK => ?_)
  show K 0 [some (vR 32), some (vI e), none, none, none, none] [] M
  have hK : ra_Clo _ m_X8_left cX8_left _ K := hK
  refine k_ic hK (q := 1)  dX8_left_0 rfl (by decide) (k_isn hK (q := 2)  dX8_left_1 rfl (L2 := [some (vR 32), some (vI e), some (vI (-1)), none, none, none]) (Nat.le_of_ble_eq_true rfl) rfl ?_)
  refine left_z hK hS (M0 := M) he h14 (fun M1 h1 hs1 ho1 hf1 z => ?_) ((S 0 0).toNat + 1) 0 M (by omega) hs (fun t ht => by omega) (fun z _ => rfl) (frM_refl _ _ _)
  refine left_while hK hS hs1 (by omega) (b := r49 M1 e) (fun j hj => ?_) rfl (fun M2 h2 ho2 hf2 => ⟨rfl, fun j hj => ?_, fun z hz => (ho2 z hz).trans (ho1 z hz), frM_trans hf1 hf2⟩) z
  · have hb4 : r49 M1 e j = 0 := h1 j hj
    omega
  · have h3 := rep_b (okB_Ev hS (Nat.le_refl _)) (c := r49 M1 e) (B := 0) (fun j hj => by have hb4 : r49 M1 e j = 0 := h1 j hj; omega) 61 j hj
    have h4 : r49 M2 e j = rep ((Ew S).map (bk S)) 61 (r49 M1 e) j := congrFun h2 j
    have h5 : M2 49 (e * 61 + j) = r49 M2 e j := rfl
    unfold Ew at h4
    omega

def FdM (S : Sc) (hp : Int → Int) (cnt : Int) (M : ra_M) (ev : Int) : Prop := (∀ j, pn S j → M 49 (cnt * 61 + j) = 0) ∧ (∀ e, ev < e → 0 ≤ e → e < cnt → ∀ p, vp S p → rs1 S hp (T49 M) e p) ∧ ∀ e j, ev < e → 0 ≤ e → e ≤ cnt → pn S j → 0 ≤ M 49 (e * 61 + j) ∧ M 49 (e * 61 + j) ≤ 1000 * (cnt - e)
theorem FdM_step {S : Sc} (hS : okSc S) (hnn : 0 < S 0 0) {hp : Int → Int} {cnt ev : Int} {M M6 : ra_M} {b : Int → Int} (hcnt : 0 ≤ cnt ∧ cnt ≤ 120) (hev : 0 ≤ ev ∧ ev < cnt) (hfd : FdM S hp cnt M ev) (hb : ∀ j, pn S j → b j = bM S (hp ev) (r49 M (ev + 1)) j) (hr6 : r49 M6 ev = rep ((Ew S).map (bk S)) 61 b) (hoff : off9 ev M M6) : FdM S hp cnt M6 (ev - 1) := by
  have hs0 := hS.1
  have hc := hS.2.2.2.2.2.2.2.1
  have c1 := hc 1 (by omega) (by omega)
  have hr1 : ∀ j, pn S j → 0 ≤ r49 M (ev + 1) j ∧ r49 M (ev + 1) j ≤ 1000 * (cnt - (ev + 1)) := fun j hj => hfd.2.2 (ev + 1) j (by omega) (by omega) (by omega) hj
  have hr2 : ∀ j, pn S j → 0 ≤ r49 M (ev + 1) j ∧ r49 M (ev + 1) j ≤ 200000 := fun j hj => by have := hr1 j hj; omega
  have hrow : ∀ j, pn S j → 0 ≤ M6 49 (ev * 61 + j) ∧ M6 49 (ev * 61 + j) ≤ 1000 * (cnt - ev) := by
    intro j hj
    have h1 : M6 49 (ev * 61 + j) = rep ((Ew S).map (bk S)) 61 b j := congrFun hr6 j
    have h2 := rep_b (okB_Ev hS (Nat.le_refl _)) (c := b) (B := 1000 * (cnt - ev)) (fun j hj => by
      have h3 := bM_nn hS (pit := hp ev) hr2 hj
      have h4 := bM_le S (hp ev) (r49 M (ev + 1)) j
      have h5 := hr1 j hj
      rw [hb j hj]
      omega) 61 j hj
    rw [h1]
    exact h2
  refine ⟨fun j hj => by rw [hoff _ (by have := hj.1; omega)]; exact hfd.1 j hj, fun e h1 h2 h3 p hv => ?_, fun e j h1 h2 h3 hj => ?_⟩
  · by_cases he : e = ev
    · subst he
      refine model_rs1 hS hnn (r1 := r49 M (e + 1)) (b := b) (fun p hv => ?_) hr2 hb (fun p hv => ?_) p hv
      · have := vp_pn hS hv
        unfold T49 r49
        rw [hoff _ (by omega), show (e + 1) * 61 + p + 1 = (e + 1) * 61 + (p + 1) by omega]
      · rw [← hr6]
        unfold T49 r49
        rw [show e * 61 + p + 1 = e * 61 + (p + 1) by omega]
    · refine rs1_cong hS hv (fun p hv => ?_) (fun p hv => ?_) (hfd.2.1 e (by omega) h2 h3 p hv)
      · have := vp_pn hS hv
        unfold T49
        rw [hoff _ (by omega)]
      · have := vp_pn hS hv
        unfold T49
        rw [hoff _ (by omega)]
  · by_cases he : e = ev
    · subst he
      exact hrow j hj
    · rw [hoff _ (by have := hj.1; have := hj.2; omega)]
      exact hfd.2.2 e j (by omega) h2 h3 hj

set_option maxRecDepth 20000 in
set_option maxHeartbeats 2000000 in
theorem xm_put (d : Nat) (M : ra_M) (k p e c : Int) (ls : List St4) (h1 : SM M ls) (h2 : ls.length < 7400) : Ex d m_X8_put [vR 32, vI k, vI p, vI e, vI c] M (fun r M2 => r = none ∧ SM M2 (ls ++ [(k, p, e, c)]) ∧ frM [50, 51, 52, 53] [33] M M2) := by
  refine Ex_leaf (Nat.le_of_ble_eq_true rfl) (fun C K hK => ?_)
  show K 0 [some (vR 32), some (vI k), some (vI p), some (vI e), some (vI c)] [] M
  have hK : ra_Clo _ m_X8_put cX8_put _ K := hK
  have e1 := h1.1
  refine k_aln hK (q := 1)  dX8_put_0 rfl (z := 32) rfl (k_gR hK (q := 4) (r := 50) dX8_put_1 rfl rf_X8_68 rfl rfl (k_aln hK (q := 5)  dX8_put_4 rfl (z := 32) rfl (k_gI hK (q := 8) (z := M 32 33) 0 dX8_put_5 rfl rf_X8_168 rfl rfl rfl rfl (k_iln hK (q := 9)  dX8_put_8 rfl (z := k) rfl (k_ast hK (q := 10)  dX8_put_9 rfl rfl (by omega) ?_)))))
  refine k_aln hK (q := 11)  dX8_put_10 rfl (z := 32) rfl (k_gR hK (q := 14) (r := 51) dX8_put_11 rfl rf_X8_71 rfl rfl (k_aln hK (q := 15)  dX8_put_14 rfl (z := 32) rfl (k_gI hK (q := 18) (z := M 32 33) 0 dX8_put_15 rfl rf_X8_168 rfl rfl rfl rfl (k_iln hK (q := 19)  dX8_put_18 rfl (z := p) rfl (k_ast hK (q := 20)  dX8_put_19 rfl rfl (by omega) ?_)))))
  refine k_aln hK (q := 21)  dX8_put_20 rfl (z := 32) rfl (k_gR hK (q := 24) (r := 52) dX8_put_21 rfl rf_X8_74 rfl rfl (k_aln hK (q := 25)  dX8_put_24 rfl (z := 32) rfl (k_gI hK (q := 28) (z := M 32 33) 0 dX8_put_25 rfl rf_X8_168 rfl rfl rfl rfl (k_iln hK (q := 29)  dX8_put_28 rfl (z := e) rfl (k_ast hK (q := 30)  dX8_put_29 rfl rfl (by omega) ?_)))))
  refine k_aln hK (q := 31)  dX8_put_30 rfl (z := 32) rfl (k_gR hK (q := 34) (r := 53) dX8_put_31 rfl rf_X8_77 rfl rfl (k_aln hK (q := 35)  dX8_put_34 rfl (z := 32) rfl (k_gI hK (q := 38) (z := M 32 33) 0 dX8_put_35 rfl rf_X8_168 rfl rfl rfl rfl (k_il hK (q := 40)  dX8_put_38 rfl (z := c) rfl (k_ast hK (q := 41)  dX8_put_40 rfl rfl (by omega) ?_)))))
  refine k_aln hK (q := 42)  dX8_put_41 rfl (z := 32) rfl (k_dup hK (q := 43)  dX8_put_42 rfl rfl (k_gI hK (q := 46) (z := M 32 33) 0 dX8_put_43 rfl rf_X8_168 rfl rfl rfl rfl (k_ic hK (q := 47)  dX8_put_46 rfl (by decide) (k_add hK (q := 48)  dX8_put_47 rfl (z := (M 32 33) + 1) rfl (by omega) (k_pI hK (q := 51) (M2 := up (up (up (up (up M 50 (M 32 33) k) 51 (M 32 33) p) 52 (M 32 33) e) 53 (M 32 33) c) 32 33 ((M 32 33) + 1)) dX8_put_48 rfl rp_X8_168 rfl rfl rfl ?_)))))
  refine k_vr hK dX8_put_51 rfl ?_
  refine ⟨rfl, ⟨?_, fun i s hi => ?_⟩, ?_⟩
  · rw [up_same, e1, List.length_append]
    simp
  · by_cases hl : i < ls.length
    · rw [List.getElem?_append_left hl] at hi
      have := h1.2 i s hi
      have hne : ((i : Nat) : Int) ≠ M 32 33 := by omega
      simp [up, hne, this]
    · have hil := (List.getElem?_eq_some_iff.mp hi).1
      simp at hil
      have hi2 : i = ls.length := by omega
      subst hi2
      simp at hi
      subst hi
      simp [up, e1]
  · exact frM_fd (frM_up (frM_up (frM_up (frM_up (frM_refl _ _ _) _ _ (by decide) (by decide)) _ _ (by decide) (by decide)) _ _ (by decide) (by decide)) _ _ (by decide) (by decide)) _ (by decide)
