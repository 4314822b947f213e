/-! the reference: choose, align -/
theorem wk_cong {S : Sc} (hS : okSc S) {hp : Int → Int} {cnt : Int} {R R2 : Int → Int → Int} (h1 : isR S hp cnt R) (h2 : isR S hp cnt R2) : ∀ (f : Nat) (e p : Int), 0 ≤ e → vp S p → wk S hp R cnt f e p = wk S hp R2 cnt f e p := by
  intro f
  induction f with
  | zero => intro e p _ _; rfl
  | succ f ih =>
    intro e p he hv
    simp only [wk]
    split
    · rfl
    next hc =>
      have ho : opt S hp R e p = opt S hp R2 e p := opt_cong hS hv (fun p hv => isR_eq hS h1 h2 (by omega) hv) (fun p hv => isR_eq hS h1 h2 (by omega) hv)
      have hT := opt_ok hS hv (h2.2 e he (by omega) p hv)
      rw [ho]
      have hv2 : vp S (opt S hp R2 e p).2.1 := by
        rcases hT with h | h
        · exact Or.inr h.2.1
        · exact h.2.1
      rw [ih _ _ (by split <;> omega) hv2]
theorem wk_mem {S : Sc} (hS : okSc S) {hp : Int → Int} {cnt : Int} {R : Int → Int → Int} (h1 : isR S hp cnt R) : ∀ (f : Nat) (e p : Int), 0 ≤ e → vp S p → ∀ s ∈ wk S hp R cnt f e p, (s.1 = 2 ∧ s.2.2.1 = -1) ∨ ((s.1 = 0 ∨ s.1 = 1 ∨ s.1 = 3) ∧ 0 ≤ s.2.2.1 ∧ s.2.2.1 < cnt) := by
  intro f
  induction f with
  | zero => intro e p _ _ s hs; simp [wk] at hs
  | succ f ih =>
    intro e p he hv s hs
    simp only [wk] at hs
    split at hs
    · cases hs
    next hc =>
      have hT := opt_ok hS hv (h1.2 e he (by omega) p hv)
      have hv2 : vp S (opt S hp R e p).2.1 := by
        rcases hT with h | h
        · exact Or.inr h.2.1
        · exact h.2.1
      rcases List.mem_cons.mp hs with h | h
      · rw [h]
        rcases hT with h | h
        · exact Or.inl ⟨h.1, h.2.2.1⟩
        · exact Or.inr ⟨h.1, by omega, by omega⟩
      · exact ih _ _ (by split <;> omega) hv2 s h

set_option maxRecDepth 20000 in
set_option maxHeartbeats 2000000 in
theorem choose_p {d : Nat} {Q : Option ra_V → ra_M → Prop} {K : Nat → ra_L → List ra_V → ra_M → Prop} (hK : ra_Clo (Ex d) m_X8_choose_ cX8_choose_ Q K) {S : Sc} (hS : okSc S) {M : ra_M} (hs : scM M = S) {e p pit : Int} {hp : Int → Int} (he : 0 ≤ e ∧ e < 120) (hv : vp S p) (hpit : hp e = pit) (h40 : M 40 e = pit) {ls : List St4} (hsm : SM M ls) (hl : ls.length < 7400) (hrr : ∀ e2 p2, e ≤ e2 → e2 ≤ e + 1 → vp S p2 → 0 ≤ M 49 (e2 * 61 + p2 + 1) ∧ M 49 (e2 * 61 + p2 + 1) ≤ 200000) (hn : NxM M (nx S p))
    (hQ : ∀ q, (nx S p).find? (okP S hp (T49 M) e p) = some q → ∀ M2, SM M2 (ls ++ [(0, q.1, e, q.2 + wr S q.1 pit)]) → frM [50, 51, 52, 53] [33] M M2 → Q none M2)
    (hX : (nx S p).find? (okP S hp (T49 M) e p) = none → ∀ i, K 99 [some (vR 32), some (vI e), some (vI p), some (vI (M 49 (e * 61 + p + 1))), some (vI i), none] [] M) :
    ∀ (l pre : List (Int × Int)) (i : Nat), nx S p = pre ++ l → i = pre.length → (nx S p).find? (okP S hp (T49 M) e p) = l.find? (okP S hp (T49 M) e p) → K 20 [some (vR 32), some (vI e), some (vI p), some (vI (M 49 (e * 61 + p + 1))), some (vI (i : Nat)), none] [] M := by
  have hs0 := hS.1
  have en := hn.1
  have hnl := nx_len hS p
  have hpb : -1 ≤ p ∧ p < 60 := vp_lt hS hv
  obtain ⟨a2, a3, a4, a5, a6⟩ := scM_a hs
  have k2 := hS.2.2.2.2.2.2.2.1 2 (by omega) (by omega)
  have e2 : M 39 2 = S 5 2 := by rw [a6]
  have hrp := hrr e p (by omega) (by omega) hv
  intro l
  induction l with
  | nil =>
    intro pre i hl2 hi hf
    have hln : (nx S p).length = pre.length := by rw [hl2]; simp
    refine k_il hK (q := 22)  dX8_choose__20 rfl (z := (i : Nat)) rfl (k_aln hK (q := 23)  dX8_choose__22 rfl (z := 32) rfl (k_gI hK (q := 26) (z := M 32 25) 0 dX8_choose__23 rfl rf_X8_112 rfl rfl rfl rfl ?_))
    refine k_cge hK (q := 29) (t := 99) dX8_choose__26 rfl rfl (fun h26 => ?_) (fun h26 => ?_)
    · exact hX (by rw [hf]; rfl) _
    · exact absurd h26 (by omega)
  | cons q l ih =>
    intro pre i hl2 hi hf
    obtain ⟨y, w⟩ := q
    have hln : (nx S p).length = pre.length + (l.length + 1) := by rw [hl2]; simp
    have hq : (nx S p)[i]? = some (y, w) := by rw [hl2, hi]; simp
    obtain ⟨g47, g48⟩ := hn.2 i _ hq
    have hm := nx_mem hS (List.mem_of_getElem? hq)
    simp only at g47 g48 hm
    have hy := thr_lt hS hm.1
    have hw := wr_in hS y pit
    have hr1 := hrr (e + 1) y (by omega) (by omega) (Or.inr hm.1)
    have hr0 := hrr e y (by omega) (by omega) (Or.inr hm.1)
    refine k_il hK (q := 22)  dX8_choose__20 rfl (z := (i : Nat)) rfl (k_aln hK (q := 23)  dX8_choose__22 rfl (z := 32) rfl (k_gI hK (q := 26) (z := M 32 25) 0 dX8_choose__23 rfl rf_X8_112 rfl rfl rfl rfl ?_))
    refine k_cge hK (q := 29) (t := 99) dX8_choose__26 rfl rfl (fun h26 => ?_) (fun h26 => ?_)
    · exact absurd h26 (by omega)
    · refine k_aln hK (q := 30)  dX8_choose__29 rfl (z := 32) rfl (k_gR hK (q := 33) (r := 48) dX8_choose__30 rfl rf_X8_62 rfl rfl (k_il hK (q := 35)  dX8_choose__33 rfl (z := (i : Nat)) rfl (k_ald hK (q := 36)  dX8_choose__35 rfl (y := M 48 (i : Nat)) rfl (by omega) rfl ?_)))
      rw [g48]
      refine k_aln hK (q := 37)  dX8_choose__36 rfl (z := 32) rfl (k_aln hK (q := 38)  dX8_choose__37 rfl (z := 32) rfl (k_gR hK (q := 41) (r := 47) dX8_choose__38 rfl rf_X8_59 rfl rfl (k_il hK (q := 43)  dX8_choose__41 rfl (z := (i : Nat)) rfl (k_ald hK (q := 44)  dX8_choose__43 rfl (y := M 47 (i : Nat)) rfl (by omega) rfl ?_))))
      rw [g47]
      refine k_iln hK (q := 45)  dX8_choose__44 rfl (z := e) rfl ?_
      refine k_iv2I hK (q := 48) dX8_choose__45 rfl rm_X8_149 rfl rfl (Nat.le_of_ble_eq_true rfl) (xm_wrong _ M y e S hs (by omega) he) ?_
      rw [h40]
      refine k_add hK (q := 49)  dX8_choose__48 rfl (z := w + (wr S y pit)) rfl (by omega) (k_is hK (q := 51)  dX8_choose__49 rfl (L2 := [some (vR 32), some (vI e), some (vI p), some (vI (M 49 (e * 61 + p + 1))), some (vI (i : Nat)), some (vI (w + (wr S y pit)))]) (Nat.le_of_ble_eq_true rfl) rfl (k_il hK (q := 53)  dX8_choose__51 rfl (z := (w + (wr S y pit))) rfl (k_aln hK (q := 54)  dX8_choose__53 rfl (z := 32) rfl (k_gR hK (q := 57) (r := 49) dX8_choose__54 rfl rf_X8_65 rfl rfl (k_aln hK (q := 58)  dX8_choose__57 rfl (z := 32) rfl ?_)))))
      refine k_iln hK (q := 59)  dX8_choose__58 rfl (z := e) rfl (k_ic hK (q := 60)  dX8_choose__59 rfl (by decide) (k_add hK (q := 61)  dX8_choose__60 rfl (z := e + 1) rfl (by omega) (k_aln hK (q := 62)  dX8_choose__61 rfl (z := 32) rfl (k_gR hK (q := 65) (r := 47) dX8_choose__62 rfl rf_X8_59 rfl rfl (k_il hK (q := 67)  dX8_choose__65 rfl (z := (i : Nat)) rfl ?_)))))
      refine k_ald hK (q := 68)  dX8_choose__67 rfl (y := M 47 (i : Nat)) rfl (by omega) rfl ?_
      rw [g47]
      refine k_iv2I hK (q := 71) dX8_choose__68 rfl rm_X8_165 rfl rfl (Nat.le_of_ble_eq_true rfl) (xm_at _ M (e + 1) y (by omega) (by omega)) ?_
      refine k_ald hK (q := 72)  dX8_choose__71 rfl (y := M 49 ((e + 1) * 61 + y + 1)) rfl (by omega) rfl (k_add hK (q := 73)  dX8_choose__72 rfl (z := (w + (wr S y pit)) + (M 49 ((e + 1) * 61 + y + 1))) rfl (by omega) (k_iln hK (q := 74)  dX8_choose__73 rfl (z := (M 49 (e * 61 + p + 1))) rfl ?_))
      refine k_cne hK (q := 77) (t := 93) dX8_choose__74 rfl rfl (fun h74 => ?_) (fun h74 => ?_)
      · refine k_inc hK (q := 96)  dX8_choose__93 rfl (y := (i : Nat) + 1) (L2 := [some (vR 32), some (vI e), some (vI p), some (vI (M 49 (e * 61 + p + 1))), some (vI ((i : Nat) + 1)), some (vI (w + (wr S y pit)))]) rfl rfl (by omega) rfl (k_goto hK (t := 20) dX8_choose__96 rfl ?_)
        refine k_weak hK (L2 := [some (vR 32), some (vI e), some (vI p), some (vI (M 49 (e * 61 + p + 1))), some (vI ((i : Nat) + 1)), none]) ⟨Or.inl rfl, Or.inl rfl, Or.inl rfl, Or.inl rfl, Or.inl rfl, Or.inr rfl, trivial⟩ ?_
        exact ih (pre ++ [(y, w)]) (i + 1) (by rw [hl2, List.append_assoc]; rfl) (by simp; omega) (by rw [hf, List.find?_cons, show okP S hp (T49 M) e p (y, w) = false from decide_eq_false (by simp only; rw [hpit]; exact h74)])
      · refine k_aln hK (q := 78)  dX8_choose__77 rfl (z := 32) rfl (k_ic hK (q := 79)  dX8_choose__78 rfl (by decide) (k_aln hK (q := 80)  dX8_choose__79 rfl (z := 32) rfl (k_gR hK (q := 83) (r := 47) dX8_choose__80 rfl rf_X8_59 rfl rfl (k_il hK (q := 85)  dX8_choose__83 rfl (z := (i : Nat)) rfl (k_ald hK (q := 86)  dX8_choose__85 rfl (y := M 47 (i : Nat)) rfl (by omega) rfl ?_)))))
        rw [g47]
        refine k_iln hK (q := 87)  dX8_choose__86 rfl (z := e) rfl (k_il hK (q := 89)  dX8_choose__87 rfl (z := (w + (wr S y pit))) rfl ?_)
        refine k_iv4 hK (q := 92) dX8_choose__89 rfl rm_X8_171 rfl rfl (Nat.le_of_ble_eq_true rfl) (xm_put _ M 0 y e (w + (wr S y pit)) ls hsm hl) (fun r9 M5 h9 => ?_)
        obtain ⟨rfl, hs5, f5⟩ := h9
        show K 92 [some (vR 32), some (vI e), some (vI p), some (vI (M 49 (e * 61 + p + 1))), some (vI (i : Nat)), some (vI (w + (wr S y pit)))] [] M5
        refine k_vr hK dX8_choose__92 rfl ?_
        refine hQ (y, w) ?_ M5 hs5 f5
        rw [hf, List.find?_cons, show okP S hp (T49 M) e p (y, w) = true from decide_eq_true (by simp only; rw [hpit]; exact h74)]

set_option maxRecDepth 20000 in
set_option maxHeartbeats 2000000 in
theorem choose_j {d : Nat} {Q : Option ra_V → ra_M → Prop} {K : Nat → ra_L → List ra_V → ra_M → Prop} (hK : ra_Clo (Ex d) m_X8_choose_ cX8_choose_ Q K) {S : Sc} (hS : okSc S) {M : ra_M} (hs : scM M = S) {e p pit : Int} {hp : Int → Int} (he : 0 ≤ e ∧ e < 120) (hv : vp S p) (hpit : hp e = pit) (h40 : M 40 e = pit) {ls : List St4} (hsm : SM M ls) (hl : ls.length < 7400) (hrr : ∀ e2 p2, e ≤ e2 → e2 ≤ e + 1 → vp S p2 → 0 ≤ M 49 (e2 * 61 + p2 + 1) ∧ M 49 (e2 * 61 + p2 + 1) ≤ 200000) (hn : NxM M (nx S p))
    (hQ : ∀ q, (nx S p).find? (okJ S (T49 M) e p) = some q → ∀ M2, SM M2 (ls ++ [(2, q.1, -1, q.2 + S 5 2)]) → frM [50, 51, 52, 53] [33] M M2 → Q none M2)
    (hX : (nx S p).find? (okJ S (T49 M) e p) = none → ∀ i, K 211 [some (vR 32), some (vI e), some (vI p), some (vI (M 49 (e * 61 + p + 1))), some (vI i), none] [] M) :
    ∀ (l pre : List (Int × Int)) (i : Nat), nx S p = pre ++ l → i = pre.length → (nx S p).find? (okJ S (T49 M) e p) = l.find? (okJ S (T49 M) e p) → K 140 [some (vR 32), some (vI e), some (vI p), some (vI (M 49 (e * 61 + p + 1))), some (vI (i : Nat)), none] [] M := by
  have hs0 := hS.1
  have en := hn.1
  have hnl := nx_len hS p
  have hpb : -1 ≤ p ∧ p < 60 := vp_lt hS hv
  obtain ⟨a2, a3, a4, a5, a6⟩ := scM_a hs
  have k2 := hS.2.2.2.2.2.2.2.1 2 (by omega) (by omega)
  have e2 : M 39 2 = S 5 2 := by rw [a6]
  have hrp := hrr e p (by omega) (by omega) hv
  intro l
  induction l with
  | nil =>
    intro pre i hl2 hi hf
    have hln : (nx S p).length = pre.length := by rw [hl2]; simp
    refine k_il hK (q := 142)  dX8_choose__140 rfl (z := (i : Nat)) rfl (k_aln hK (q := 143)  dX8_choose__142 rfl (z := 32) rfl (k_gI hK (q := 146) (z := M 32 25) 0 dX8_choose__143 rfl rf_X8_112 rfl rfl rfl rfl ?_))
    refine k_cge hK (q := 149) (t := 211) dX8_choose__146 rfl rfl (fun h146 => ?_) (fun h146 => ?_)
    · exact hX (by rw [hf]; rfl) _
    · exact absurd h146 (by omega)
  | cons q l ih =>
    intro pre i hl2 hi hf
    obtain ⟨y, w⟩ := q
    have hln : (nx S p).length = pre.length + (l.length + 1) := by rw [hl2]; simp
    have hq : (nx S p)[i]? = some (y, w) := by rw [hl2, hi]; simp
    obtain ⟨g47, g48⟩ := hn.2 i _ hq
    have hm := nx_mem hS (List.mem_of_getElem? hq)
    simp only at g47 g48 hm
    have hy := thr_lt hS hm.1
    have hw := wr_in hS y pit
    have hr1 := hrr (e + 1) y (by omega) (by omega) (Or.inr hm.1)
    have hr0 := hrr e y (by omega) (by omega) (Or.inr hm.1)
    refine k_il hK (q := 142)  dX8_choose__140 rfl (z := (i : Nat)) rfl (k_aln hK (q := 143)  dX8_choose__142 rfl (z := 32) rfl (k_gI hK (q := 146) (z := M 32 25) 0 dX8_choose__143 rfl rf_X8_112 rfl rfl rfl rfl ?_))
    refine k_cge hK (q := 149) (t := 211) dX8_choose__146 rfl rfl (fun h146 => ?_) (fun h146 => ?_)
    · exact absurd h146 (by omega)
    · refine k_aln hK (q := 150)  dX8_choose__149 rfl (z := 32) rfl (k_gR hK (q := 153) (r := 48) dX8_choose__150 rfl rf_X8_62 rfl rfl (k_il hK (q := 155)  dX8_choose__153 rfl (z := (i : Nat)) rfl (k_ald hK (q := 156)  dX8_choose__155 rfl (y := M 48 (i : Nat)) rfl (by omega) rfl ?_)))
      rw [g48]
      refine k_aln hK (q := 157)  dX8_choose__156 rfl (z := 32) rfl (k_gR hK (q := 160) (r := 39) dX8_choose__157 rfl rf_X8_35 rfl rfl (k_ic hK (q := 161)  dX8_choose__160 rfl (by decide) (k_ald hK (q := 162)  dX8_choose__161 rfl (y := M 39 2) rfl (by omega) rfl (k_add hK (q := 163)  dX8_choose__162 rfl (z := w + (M 39 2)) rfl (by omega) (k_is hK (q := 165)  dX8_choose__163 rfl (L2 := [some (vR 32), some (vI e), some (vI p), some (vI (M 49 (e * 61 + p + 1))), some (vI (i : Nat)), some (vI (w + (M 39 2)))]) (Nat.le_of_ble_eq_true rfl) rfl ?_)))))
      refine k_il hK (q := 167)  dX8_choose__165 rfl (z := (w + (M 39 2))) rfl (k_aln hK (q := 168)  dX8_choose__167 rfl (z := 32) rfl (k_gR hK (q := 171) (r := 49) dX8_choose__168 rfl rf_X8_65 rfl rfl (k_aln hK (q := 172)  dX8_choose__171 rfl (z := 32) rfl (k_iln hK (q := 173)  dX8_choose__172 rfl (z := e) rfl (k_aln hK (q := 174)  dX8_choose__173 rfl (z := 32) rfl ?_)))))
      refine k_gR hK (q := 177) (r := 47) dX8_choose__174 rfl rf_X8_59 rfl rfl (k_il hK (q := 179)  dX8_choose__177 rfl (z := (i : Nat)) rfl (k_ald hK (q := 180)  dX8_choose__179 rfl (y := M 47 (i : Nat)) rfl (by omega) rfl ?_))
      rw [g47]
      refine k_iv2I hK (q := 183) dX8_choose__180 rfl rm_X8_165 rfl rfl (Nat.le_of_ble_eq_true rfl) (xm_at _ M e y (by omega) (by omega)) ?_
      refine k_ald hK (q := 184)  dX8_choose__183 rfl (y := M 49 (e * 61 + y + 1)) rfl (by omega) rfl (k_add hK (q := 185)  dX8_choose__184 rfl (z := (w + (M 39 2)) + (M 49 (e * 61 + y + 1))) rfl (by omega) (k_iln hK (q := 186)  dX8_choose__185 rfl (z := (M 49 (e * 61 + p + 1))) rfl ?_))
      refine k_cne hK (q := 189) (t := 205) dX8_choose__186 rfl rfl (fun h186 => ?_) (fun h186 => ?_)
      · refine k_inc hK (q := 208)  dX8_choose__205 rfl (y := (i : Nat) + 1) (L2 := [some (vR 32), some (vI e), some (vI p), some (vI (M 49 (e * 61 + p + 1))), some (vI ((i : Nat) + 1)), some (vI (w + (M 39 2)))]) rfl rfl (by omega) rfl (k_goto hK (t := 140) dX8_choose__208 rfl ?_)
        refine k_weak hK (L2 := [some (vR 32), some (vI e), some (vI p), some (vI (M 49 (e * 61 + p + 1))), some (vI ((i : Nat) + 1)), none]) ⟨Or.inl rfl, Or.inl rfl, Or.inl rfl, Or.inl rfl, Or.inl rfl, Or.inr rfl, trivial⟩ ?_
        exact ih (pre ++ [(y, w)]) (i + 1) (by rw [hl2, List.append_assoc]; rfl) (by simp; omega) (by rw [hf, List.find?_cons, show okJ S (T49 M) e p (y, w) = false from decide_eq_false (by simp only; rw [← e2]; exact h186)])
      · refine k_aln hK (q := 190)  dX8_choose__189 rfl (z := 32) rfl (k_ic hK (q := 191)  dX8_choose__190 rfl (by decide) (k_aln hK (q := 192)  dX8_choose__191 rfl (z := 32) rfl (k_gR hK (q := 195) (r := 47) dX8_choose__192 rfl rf_X8_59 rfl rfl (k_il hK (q := 197)  dX8_choose__195 rfl (z := (i : Nat)) rfl (k_ald hK (q := 198)  dX8_choose__197 rfl (y := M 47 (i : Nat)) rfl (by omega) rfl ?_)))))
        rw [g47]
        refine k_ic hK (q := 199)  dX8_choose__198 rfl (by decide) (k_il hK (q := 201)  dX8_choose__199 rfl (z := (w + (M 39 2))) rfl ?_)
        refine k_iv4 hK (q := 204) dX8_choose__201 rfl rm_X8_171 rfl rfl (Nat.le_of_ble_eq_true rfl) (xm_put _ M 2 y (-1) (w + (M 39 2)) ls hsm hl) (fun r9 M5 h9 => ?_)
        obtain ⟨rfl, hs5, f5⟩ := h9
        show K 204 [some (vR 32), some (vI e), some (vI p), some (vI (M 49 (e * 61 + p + 1))), some (vI (i : Nat)), some (vI (w + (M 39 2)))] [] M5
        refine k_vr hK dX8_choose__204 rfl ?_
        rw [e2] at hs5
        refine hQ (y, w) ?_ M5 hs5 f5
        rw [hf, List.find?_cons, show okJ S (T49 M) e p (y, w) = true from decide_eq_true (by simp only; rw [← e2]; exact h186)]

set_option maxRecDepth 20000 in
set_option maxHeartbeats 2000000 in
theorem choose_h {d : Nat} {Q : Option ra_V → ra_M → Prop} {K : Nat → ra_L → List ra_V → ra_M → Prop} (hK : ra_Clo (Ex d) m_X8_choose_ cX8_choose_ Q K) {S : Sc} (hS : okSc S) {M : ra_M} (hs : scM M = S) {e p pit : Int} {hp : Int → Int} (he : 0 ≤ e ∧ e < 120) (hv : vp S p) (hpit : hp e = pit) (h40 : M 40 e = pit) {ls : List St4} (hsm : SM M ls) (hl : ls.length < 7400) (hrr : ∀ e2 p2, e ≤ e2 → e2 ≤ e + 1 → vp S p2 → 0 ≤ M 49 (e2 * 61 + p2 + 1) ∧ M 49 (e2 * 61 + p2 + 1) ≤ 200000)
    (hQ : ∀ n : Nat, (List.range (S 0 0).toNat).find? (okH S hp (T49 M) e p) = some n → ∀ M2, SM M2 (ls ++ [((3, ((n : Nat) : Int), e, S 5 4 + wr S (n : Nat) pit) : St4)]) → frM [50, 51, 52, 53] [33] M M2 → Q none M2)
    (hX : ¬ (List.range (S 0 0).toNat).find? (okH S hp (T49 M) e p) = none) :
    ∀ (n i : Nat), i + n = (S 0 0).toNat → (∀ x, x < i → okH S hp (T49 M) e p x = false) → K 214 [some (vR 32), some (vI e), some (vI p), some (vI (M 49 (e * 61 + p + 1))), some (vI (i : Nat)), none] [] M := by
  have hNV : NV = 1000000000 := rfl
  have hs0 := hS.1
  have hpb : -1 ≤ p ∧ p < 60 := vp_lt hS hv
  obtain ⟨e5, e6, e7, e8, e9⟩ := scM_e hs
  obtain ⟨a2, a3, a4, a5, a6⟩ := scM_a hs
  have k4 := hS.2.2.2.2.2.2.2.1 4 (by omega) (by omega)
  have e4 : M 39 4 = S 5 4 := by rw [a6]
  intro n
  induction n with
  | zero =>
    intro i hi hno
    refine k_il hK (q := 216)  dX8_choose__214 rfl (z := (i : Nat)) rfl (k_aln hK (q := 217)  dX8_choose__216 rfl (z := 32) rfl (k_gI hK (q := 220) (z := M 32 4) 0 dX8_choose__217 rfl rf_X8_86 rfl rfl rfl rfl ?_))
    refine k_cge hK (q := 223) (t := 298) dX8_choose__220 rfl rfl (fun h220 => ?_) (fun h220 => ?_)
    · exfalso
      apply hX
      rw [List.find?_eq_none]
      intro x hx
      have := hno x (by have := List.mem_range.mp hx; omega)
      simp [this]
    · exact absurd h220 (by omega)
  | succ n ih =>
    intro i hi hno
    have hw := wr_in hS (i : Nat) pit
    refine k_il hK (q := 216)  dX8_choose__214 rfl (z := (i : Nat)) rfl (k_aln hK (q := 217)  dX8_choose__216 rfl (z := 32) rfl (k_gI hK (q := 220) (z := M 32 4) 0 dX8_choose__217 rfl rf_X8_86 rfl rfl rfl rfl ?_))
    refine k_cge hK (q := 223) (t := 298) dX8_choose__220 rfl rfl (fun h220 => ?_) (fun h220 => ?_)
    · exact absurd h220 (by omega)
    · refine k_aln hK (q := 224)  dX8_choose__223 rfl (z := 32) rfl (k_il hK (q := 226)  dX8_choose__224 rfl (z := (i : Nat)) rfl ?_)
      refine k_iv1I hK (q := 229) dX8_choose__226 rfl rm_X8_115 rfl rfl (Nat.le_of_ble_eq_true rfl) (t_isThere _ M (i : Nat)) ?_
      refine k_ifeq hK (q := 232) (t := 249) dX8_choose__229 rfl rfl (fun h229 => ?_) (fun h229 => ?_)
      · have h229 := bi_0.mp h229
        refine k_ldc hK (q := 251)  dX8_choose__249 rfl rc_X8_123 (k_is hK (q := 253)  dX8_choose__251 rfl (L2 := [some (vR 32), some (vI e), some (vI p), some (vI (M 49 (e * 61 + p + 1))), some (vI (i : Nat)), some (vI 1000000000)]) (Nat.le_of_ble_eq_true rfl) rfl (k_il hK (q := 255)  dX8_choose__253 rfl (z := 1000000000) rfl (k_ldc hK (q := 257)  dX8_choose__255 rfl rc_X8_123 ?_)))
        refine k_cge hK (q := 260) (t := 292) dX8_choose__257 rfl rfl (fun h257 => ?_) (fun h257 => ?_)
        · skip
          refine k_inc hK (q := 295)  dX8_choose__292 rfl (y := (i : Nat) + 1) (L2 := [some (vR 32), some (vI e), some (vI p), some (vI (M 49 (e * 61 + p + 1))), some (vI ((i : Nat) + 1)), some (vI 1000000000)]) rfl rfl (by omega) rfl (k_goto hK (t := 214) dX8_choose__295 rfl ?_)
          refine k_weak hK (L2 := [some (vR 32), some (vI e), some (vI p), some (vI (M 49 (e * 61 + p + 1))), some (vI ((i : Nat) + 1)), none]) ⟨Or.inl rfl, Or.inl rfl, Or.inl rfl, Or.inl rfl, Or.inl rfl, Or.inr rfl, trivial⟩ ?_
          refine ih (i + 1) (by omega) (fun x hx => ?_)
          by_cases hxi : x = i
          · subst hxi
            exact decide_eq_false (fun q => h229 ((thr_M hs _).mpr q.1))
          · exact hno x (by omega)
        · exact absurd h257 (by omega)
      · have h229 := bi_1.mp h229
        refine k_aln hK (q := 233)  dX8_choose__232 rfl (z := 32) rfl (k_gR hK (q := 236) (r := 39) dX8_choose__233 rfl rf_X8_35 rfl rfl (k_ic hK (q := 237)  dX8_choose__236 rfl (by decide) (k_ald hK (q := 238)  dX8_choose__237 rfl (y := M 39 4) rfl (by omega) rfl (k_aln hK (q := 239)  dX8_choose__238 rfl (z := 32) rfl (k_il hK (q := 241)  dX8_choose__239 rfl (z := (i : Nat)) rfl ?_)))))
        refine k_iln hK (q := 242)  dX8_choose__241 rfl (z := e) rfl ?_
        refine k_iv2I hK (q := 245) dX8_choose__242 rfl rm_X8_149 rfl rfl (Nat.le_of_ble_eq_true rfl) (xm_wrong _ M (i : Nat) e S hs (by omega) he) ?_
        rw [h40]
        refine k_add hK (q := 246)  dX8_choose__245 rfl (z := (M 39 4) + (wr S (i : Nat) pit)) rfl (by omega) (k_goto hK (t := 251) dX8_choose__246 rfl (k_is hK (q := 253)  dX8_choose__251 rfl (L2 := [some (vR 32), some (vI e), some (vI p), some (vI (M 49 (e * 61 + p + 1))), some (vI (i : Nat)), some (vI ((M 39 4) + (wr S (i : Nat) pit)))]) (Nat.le_of_ble_eq_true rfl) rfl (k_il hK (q := 255)  dX8_choose__253 rfl (z := ((M 39 4) + (wr S (i : Nat) pit))) rfl (k_ldc hK (q := 257)  dX8_choose__255 rfl rc_X8_123 ?_))))
        refine k_cge hK (q := 260) (t := 292) dX8_choose__257 rfl rfl (fun h257 => ?_) (fun h257 => ?_)
        · exact absurd h257 (by omega)
        · have hri := hrr (e + 1) (i : Nat) (by omega) (by omega) (Or.inr ((thr_M hs _).mp h229))
          refine k_il hK (q := 262)  dX8_choose__260 rfl (z := ((M 39 4) + (wr S (i : Nat) pit))) rfl (k_aln hK (q := 263)  dX8_choose__262 rfl (z := 32) rfl (k_gR hK (q := 266) (r := 49) dX8_choose__263 rfl rf_X8_65 rfl rfl (k_aln hK (q := 267)  dX8_choose__266 rfl (z := 32) rfl (k_iln hK (q := 268)  dX8_choose__267 rfl (z := e) rfl (k_ic hK (q := 269)  dX8_choose__268 rfl (by decide) ?_)))))
          refine k_add hK (q := 270)  dX8_choose__269 rfl (z := e + 1) rfl (by omega) (k_il hK (q := 272)  dX8_choose__270 rfl (z := (i : Nat)) rfl ?_)
          refine k_iv2I hK (q := 275) dX8_choose__272 rfl rm_X8_165 rfl rfl (Nat.le_of_ble_eq_true rfl) (xm_at _ M (e + 1) (i : Nat) (by omega) (by omega)) ?_
          refine k_ald hK (q := 276)  dX8_choose__275 rfl (y := M 49 ((e + 1) * 61 + (i : Nat) + 1)) rfl (by omega) rfl (k_add hK (q := 277)  dX8_choose__276 rfl (z := ((M 39 4) + (wr S (i : Nat) pit)) + (M 49 ((e + 1) * 61 + (i : Nat) + 1))) rfl (by omega) (k_iln hK (q := 278)  dX8_choose__277 rfl (z := (M 49 (e * 61 + p + 1))) rfl ?_))
          refine k_cne hK (q := 281) (t := 292) dX8_choose__278 rfl rfl (fun h278 => ?_) (fun h278 => ?_)
          · refine k_inc hK (q := 295)  dX8_choose__292 rfl (y := (i : Nat) + 1) (L2 := [some (vR 32), some (vI e), some (vI p), some (vI (M 49 (e * 61 + p + 1))), some (vI ((i : Nat) + 1)), some (vI ((M 39 4) + (wr S (i : Nat) pit)))]) rfl rfl (by omega) rfl (k_goto hK (t := 214) dX8_choose__295 rfl ?_)
            refine k_weak hK (L2 := [some (vR 32), some (vI e), some (vI p), some (vI (M 49 (e * 61 + p + 1))), some (vI ((i : Nat) + 1)), none]) ⟨Or.inl rfl, Or.inl rfl, Or.inl rfl, Or.inl rfl, Or.inl rfl, Or.inr rfl, trivial⟩ ?_
            refine ih (i + 1) (by omega) (fun x hx => ?_)
            by_cases hxi : x = i
            · subst hxi
              exact decide_eq_false (fun q => h278 (by have := q.2; rw [hpit] at this; rw [e4]; exact this))
            · exact hno x (by omega)
          · refine k_aln hK (q := 282)  dX8_choose__281 rfl (z := 32) rfl (k_ic hK (q := 283)  dX8_choose__282 rfl (by decide) (k_il hK (q := 285)  dX8_choose__283 rfl (z := (i : Nat)) rfl (k_iln hK (q := 286)  dX8_choose__285 rfl (z := e) rfl (k_il hK (q := 288)  dX8_choose__286 rfl (z := ((M 39 4) + (wr S (i : Nat) pit))) rfl ?_))))
            refine k_iv4 hK (q := 291) dX8_choose__288 rfl rm_X8_171 rfl rfl (Nat.le_of_ble_eq_true rfl) (xm_put _ M 3 (i : Nat) e ((M 39 4) + (wr S (i : Nat) pit)) ls hsm hl) (fun r9 M5 h9 => ?_)
            obtain ⟨rfl, hs5, f5⟩ := h9
            show K 291 [some (vR 32), some (vI e), some (vI p), some (vI (M 49 (e * 61 + p + 1))), some (vI (i : Nat)), some (vI ((M 39 4) + (wr S (i : Nat) pit)))] [] M5
            refine k_vr hK dX8_choose__291 rfl ?_
            rw [e4] at hs5
            refine hQ i ?_ M5 hs5 f5
            exact find_first (by omega) hno (decide_eq_true ⟨(thr_M hs _).mp h229, by rw [hpit, ← e4]; exact h278⟩)

set_option maxRecDepth 20000 in
set_option maxHeartbeats 2000000 in
theorem xm_choose2 (d : Nat) (M : ra_M) (e p : Int) (S : Sc) (hs : scM M = S) (hS : okSc S) (hp : Int → Int) (he : 0 ≤ e ∧ e < 120) (hv : vp S p) (h40 : M 40 = hp) (ls : List St4) (hsm : SM M ls) (hl : ls.length < 7400) (hrr : ∀ e2 p2, e ≤ e2 → e2 ≤ e + 1 → vp S p2 → 0 ≤ M 49 (e2 * 61 + p2 + 1) ∧ M 49 (e2 * 61 + p2 + 1) ≤ 200000) (hrs : rs1 S hp (T49 M) e p) : Ex (d + 2) m_X8_choose_ [vR 32, vI e, vI p] M (fun r M2 => r = none ∧ SM M2 (ls ++ [opt S hp (T49 M) e p]) ∧ frM [47, 48, 50, 51, 52, 53] [25, 33] M M2) := by
  refine Ex_call (Nat.le_of_ble_eq_true rfl) (fun K hK => ?_)
  show K 0 [some (vR 32), some (vI e), some (vI p), none, none, none] [] M
  have hK : ra_Clo _ m_X8_choose_ cX8_choose_ _ K := hK
  have hs0 := hS.1
  have hpb : -1 ≤ p ∧ p < 60 := vp_lt hS hv
  refine k_aln hK (q := 1)  dX8_choose__0 rfl (z := 32) rfl (k_gR hK (q := 4) (r := 49) dX8_choose__1 rfl rf_X8_65 rfl rfl (k_aln hK (q := 5)  dX8_choose__4 rfl (z := 32) rfl (k_iln hK (q := 6)  dX8_choose__5 rfl (z := e) rfl (k_iln hK (q := 7)  dX8_choose__6 rfl (z := p) rfl ?_))))
  refine k_iv2I hK (q := 10) dX8_choose__7 rfl rm_X8_165 rfl rfl (Nat.le_of_ble_eq_true rfl) (xm_at _ M e p (by omega) (by omega)) ?_
  refine k_ald hK (q := 11)  dX8_choose__10 rfl (y := M 49 (e * 61 + p + 1)) rfl (by omega) rfl (k_isn hK (q := 12)  dX8_choose__11 rfl (L2 := [some (vR 32), some (vI e), some (vI p), some (vI (M 49 (e * 61 + p + 1))), none, none]) (Nat.le_of_ble_eq_true rfl) rfl (k_aln hK (q := 13)  dX8_choose__12 rfl (z := 32) rfl (k_iln hK (q := 14)  dX8_choose__13 rfl (z := p) rfl ?_)))
  refine k_iv1 hK (q := 17) dX8_choose__14 rfl rm_X8_146 rfl rfl (Nat.le_of_ble_eq_true rfl) (xm_nextsOf _ M p S hs hS hpb) (fun r9 M5 h9 => ?_)
  obtain ⟨rfl, hn5, f5⟩ := h9
  have q49 : M5 49 = M 49 := f5.1 49 (by decide) (by decide)
  have qT : T49 M5 = T49 M := by unfold T49; rw [q49]
  have hs5 : scM M5 = S := by rw [scM_fr f5 (by decide) (by decide)]; exact hs
  have hsm5 : SM M5 ls := SM_f hsm (f5.2 33 (by decide)) (f5.1 50 (by decide) (by decide)) (f5.1 51 (by decide) (by decide)) (f5.1 52 (by decide) (by decide)) (f5.1 53 (by decide) (by decide))
  have hrr5 : ∀ e2 p2, e ≤ e2 → e2 ≤ e + 1 → vp S p2 → 0 ≤ M5 49 (e2 * 61 + p2 + 1) ∧ M5 49 (e2 * 61 + p2 + 1) ≤ 200000 := by rw [q49]; exact hrr
  obtain ⟨pit, hpit⟩ : ∃ pit, hp e = pit := ⟨_, rfl⟩
  have h405 : M5 40 e = pit := by rw [f5.1 40 (by decide) (by decide), h40]; exact hpit
  rw [← qT] at hrs hK
  have e1 : M5 39 1 = S 5 1 := by rw [(scM_a hs5).2.2.2.2]
  have k1 := hS.2.2.2.2.2.2.2.1 1 (by omega) (by omega)
  have hr1 := hrr5 (e + 1) p (by omega) (by omega) hv
  have hfin : ∀ M2, frM [50, 51, 52, 53] [33] M5 M2 → SM M2 (ls ++ [opt S hp (T49 M5) e p]) → (fun (r : Option ra_V) (M2 : ra_M) => r = none ∧ SM M2 (ls ++ [opt S hp (T49 M5) e p]) ∧ frM [47, 48, 50, 51, 52, 53] [25, 33] M M2) none M2 := fun M2 f2 h2 => ⟨rfl, h2, frM_trans (frM_sub f5 (by decide) (by decide)) (frM_sub f2 (by decide) (by decide))⟩
  show K 17 [some (vR 32), some (vI e), some (vI p), some (vI (M 49 (e * 61 + p + 1))), none, none] [] M5
  refine k_ic hK (q := 18)  dX8_choose__17 rfl (by decide) (k_is hK (q := 20)  dX8_choose__18 rfl (L2 := [some (vR 32), some (vI e), some (vI p), some (vI (M 49 (e * 61 + p + 1))), some (vI 0), none]) (Nat.le_of_ble_eq_true rfl) rfl ?_)
  rw [← q49]
  have J99 : (nx S p).find? (okP S hp (T49 M5) e p) = none → ∀ z, K 99 [some (vR 32), some (vI e), some (vI p), some (vI (M5 49 (e * 61 + p + 1))), some (vI z), none] [] M5 := by
    intro hq1 z
    refine k_aln hK (q := 100)  dX8_choose__99 rfl (z := 32) rfl (k_gR hK (q := 103) (r := 39) dX8_choose__100 rfl rf_X8_35 rfl rfl (k_ic hK (q := 104)  dX8_choose__103 rfl (by decide) (k_ald hK (q := 105)  dX8_choose__104 rfl (y := M5 39 1) rfl (by omega) rfl (k_aln hK (q := 106)  dX8_choose__105 rfl (z := 32) rfl (k_gR hK (q := 109) (r := 49) dX8_choose__106 rfl rf_X8_65 rfl rfl ?_)))))
    refine k_aln hK (q := 110)  dX8_choose__109 rfl (z := 32) rfl (k_iln hK (q := 111)  dX8_choose__110 rfl (z := e) rfl (k_ic hK (q := 112)  dX8_choose__111 rfl (by decide) (k_add hK (q := 113)  dX8_choose__112 rfl (z := e + 1) rfl (by omega) (k_iln hK (q := 114)  dX8_choose__113 rfl (z := p) rfl ?_))))
    refine k_iv2I hK (q := 117) dX8_choose__114 rfl rm_X8_165 rfl rfl (Nat.le_of_ble_eq_true rfl) (xm_at _ M5 (e + 1) p (by omega) (by omega)) ?_
    refine k_ald hK (q := 118)  dX8_choose__117 rfl (y := M5 49 ((e + 1) * 61 + p + 1)) rfl (by omega) rfl (k_add hK (q := 119)  dX8_choose__118 rfl (z := (M5 39 1) + (M5 49 ((e + 1) * 61 + p + 1))) rfl (by omega) (k_iln hK (q := 120)  dX8_choose__119 rfl (z := (M5 49 (e * 61 + p + 1))) rfl ?_))
    refine k_cne hK (q := 123) (t := 137) dX8_choose__120 rfl rfl (fun h120 => ?_) (fun h120 => ?_)
    · refine k_ic hK (q := 138)  dX8_choose__137 rfl (by decide) (k_is hK (q := 140)  dX8_choose__138 rfl (L2 := [some (vR 32), some (vI e), some (vI p), some (vI (M5 49 (e * 61 + p + 1))), some (vI 0), none]) (Nat.le_of_ble_eq_true rfl) rfl ?_)
      have hx : ¬ S 5 1 + T49 M5 (e + 1) p = T49 M5 e p := by rw [← e1]; exact h120
      have J211 : (nx S p).find? (okJ S (T49 M5) e p) = none → ∀ z, K 211 [some (vR 32), some (vI e), some (vI p), some (vI (M5 49 (e * 61 + p + 1))), some (vI z), none] [] M5 := by
        intro hq2 z
        refine k_ic hK (q := 212)  dX8_choose__211 rfl (by decide) (k_is hK (q := 214)  dX8_choose__212 rfl (L2 := [some (vR 32), some (vI e), some (vI p), some (vI (M5 49 (e * 61 + p + 1))), some (vI 0), none]) (Nat.le_of_ble_eq_true rfl) rfl ?_)
        exact choose_h hK hS hs5 he hv hpit h405 hsm5 hl hrr5 (fun n h M2 h2 f2 => hfin M2 f2 (by unfold opt; rw [hq1]; simp only; rw [if_neg hx, hq2]; simp only; rw [h, hpit]; exact h2)) (fun q => opt_no hrs hq1 hx hq2 q) (S 0 0).toNat 0 (by omega) (fun x hx => by omega)
      exact choose_j hK hS hs5 he hv hpit h405 hsm5 hl hrr5 hn5 (fun q h M2 h2 f2 => hfin M2 f2 (by unfold opt; rw [hq1]; simp only; rw [if_neg hx, h]; exact h2)) J211 (nx S p) [] 0 rfl rfl rfl
    · refine k_aln hK (q := 124)  dX8_choose__123 rfl (z := 32) rfl (k_ic hK (q := 125)  dX8_choose__124 rfl (by decide) (k_iln hK (q := 126)  dX8_choose__125 rfl (z := p) rfl (k_iln hK (q := 127)  dX8_choose__126 rfl (z := e) rfl (k_aln hK (q := 128)  dX8_choose__127 rfl (z := 32) rfl (k_gR hK (q := 131) (r := 39) dX8_choose__128 rfl rf_X8_35 rfl rfl ?_)))))
      refine k_ic hK (q := 132)  dX8_choose__131 rfl (by decide) (k_ald hK (q := 133)  dX8_choose__132 rfl (y := M5 39 1) rfl (by omega) rfl ?_)
      refine k_iv4 hK (q := 136) dX8_choose__133 rfl rm_X8_171 rfl rfl (Nat.le_of_ble_eq_true rfl) (xm_put _ M5 1 p e (M5 39 1) ls hsm5 hl) (fun r9 M6 h9 => ?_)
      obtain ⟨rfl, hs6, f6⟩ := h9
      show K 136 [some (vR 32), some (vI e), some (vI p), some (vI (M5 49 (e * 61 + p + 1))), some (vI z), none] [] M6
      refine k_vr hK dX8_choose__136 rfl ?_
      rw [e1] at hs6
      exact hfin M6 f6 (by unfold opt; rw [hq1]; simp only; rw [if_pos (by rw [← e1]; exact h120)]; exact hs6)
  exact choose_p hK hS hs5 he hv hpit h405 hsm5 hl hrr5 hn5 (fun q h M2 h2 f2 => hfin M2 f2 (by unfold opt; rw [h, hpit]; exact h2)) J99 (nx S p) [] 0 rfl rfl rfl

set_option maxRecDepth 20000 in
set_option maxHeartbeats 2000000 in
theorem align_a {d : Nat} {Q : Option ra_V → ra_M → Prop} {K : Nat → ra_L → List ra_V → ra_M → Prop} (hK : ra_Clo (Ex (d + 2)) m_X8_align cX8_align Q K) {S : Sc} (hS : okSc S) (hnn : 0 < S 0 0) {M0 : ra_M} {hp : Int → Int} {cnt : Int} (hcnt : 0 ≤ cnt ∧ cnt ≤ 120) (h40 : M0 40 = hp) (h14 : M0 32 14 = cnt)
    (hX : ∀ (M : ra_M), scM M = S → FdM S hp cnt M (-1) → frM [47, 48, 49] [25] M0 M → ∀ z, K 35 [some (vR 32), some (vI z), none] [] M) :
    ∀ (n : Nat) (M : ra_M), (n : Int) ≤ cnt → scM M = S → FdM S hp cnt M (((n : Nat) : Int) - 1) → frM [47, 48, 49] [25] M0 M → K 20 [some (vR 32), some (vI (((n : Nat) : Int) - 1)), none] [] M := by
  intro n
  induction n with
  | zero =>
    intro M hn hs hfd hf
    refine k_iln hK (q := 21)  dX8_align_20 rfl (z := (((0 : Nat) : Int) - 1)) rfl ?_
    refine k_iflt hK (q := 24) (t := 35) dX8_align_21 rfl rfl (fun h21 => ?_) (fun h21 => ?_)
    · exact hX M hs hfd hf _
    · exact absurd h21 (by omega)
  | succ n ih =>
    intro M hn hs hfd hf
    refine k_iln hK (q := 21)  dX8_align_20 rfl (z := (((n + 1 : Nat) : Int) - 1)) rfl ?_
    refine k_iflt hK (q := 24) (t := 35) dX8_align_21 rfl rfl (fun h21 => ?_) (fun h21 => ?_)
    · exact absurd h21 (by omega)
    · refine k_aln hK (q := 25)  dX8_align_24 rfl (z := 32) rfl (k_iln hK (q := 26)  dX8_align_25 rfl (z := (((n + 1 : Nat) : Int) - 1)) rfl ?_)
      refine k_iv1 hK (q := 29) dX8_align_26 rfl rm_X8_175 rfl rfl (Nat.le_of_ble_eq_true rfl) (xm_left_a _ M (((n + 1 : Nat) : Int) - 1) S hs hS (hp (((n + 1 : Nat) : Int) - 1)) cnt (r49 M (((n + 1 : Nat) : Int) - 1 + 1)) (by omega) (by omega) (by rw [hf.1 40 (by decide) (by decide), h40]) (by rw [hf.2 14 (by decide)]; exact h14) (fun j hj => ⟨rfl, by have := hfd.2.2 (((n + 1 : Nat) : Int) - 1 + 1) j (by omega) (by omega) (by omega) hj; unfold r49; omega⟩)) (fun r9 M5 h9 => ?_)
      obtain ⟨rfl, ⟨b, hb, hr5⟩, ho5, f5⟩ := h9
      show K 29 [some (vR 32), some (vI (((n + 1 : Nat) : Int) - 1)), none] [] M5
      refine k_inc hK (q := 32)  dX8_align_29 rfl (y := (((n + 1 : Nat) : Int) - 1) + (-1)) (L2 := [some (vR 32), some (vI ((((n + 1 : Nat) : Int) - 1) + (-1))), none]) rfl rfl (by omega) rfl (k_goto hK (t := 20) dX8_align_32 rfl ?_)
      rw [show ((n + 1 : Nat) : Int) - 1 + (-1) = ((n : Nat) : Int) - 1 by omega]
      have hst := FdM_step hS hnn hcnt (ev := ((n + 1 : Nat) : Int) - 1) (by omega) hfd hb hr5 ho5
      rw [show ((n + 1 : Nat) : Int) - 1 - 1 = ((n : Nat) : Int) - 1 by omega] at hst
      exact ih M5 (by omega) (by rw [scM_fr f5 (by decide) (by decide)]; exact hs) hst (frM_trans hf f5)

set_option maxRecDepth 20000 in
set_option maxHeartbeats 2000000 in
theorem align_b {d : Nat} {Q : Option ra_V → ra_M → Prop} {K : Nat → ra_L → List ra_V → ra_M → Prop} (hK : ra_Clo (Ex (d + 2)) m_X8_align cX8_align Q K) {S : Sc} (hS : okSc S) {M0 : ra_M} {hp : Int → Int} {cnt : Int} (hcnt : 0 ≤ cnt ∧ cnt ≤ 120) (h40 : M0 40 = hp) (h14 : M0 32 14 = cnt) (hR : isR S hp cnt (T49 M0)) (hrr : ∀ e2 p2, 0 ≤ e2 → e2 ≤ cnt → vp S p2 → 0 ≤ M0 49 (e2 * 61 + p2 + 1) ∧ M0 49 (e2 * 61 + p2 + 1) ≤ 200000) {full : List St4}
    (hX : ∀ (M : ra_M), SM M full → frM [47, 48, 50, 51, 52, 53] [25, 33] M0 M → ∀ y z, K 110 [some (vR 32), some (vI y), some (vI z)] [] M) :
    ∀ (n k : Nat) (M : ra_M) (ls : List St4) (e p : Int), k + n = 7320 → scM M = S → frM [47, 48, 50, 51, 52, 53] [25, 33] M0 M → SM M ls → ls.length = k → (0 ≤ e ∧ e ≤ cnt) → vp S p → full = ls ++ wk S hp (T49 M0) cnt n e p → (e < cnt → (k : Int) + mu S (T49 M0) e p ≤ 61 * e + 60) → K 59 [some (vR 32), some (vI e), some (vI p)] [] M := by
  intro n
  induction n with
  | zero =>
    intro k M ls e p hk hs hf hsm hlk he hv hfull hmu
    have q14 : M 32 14 = cnt := by rw [hf.2 14 (by decide)]; exact h14
    refine k_iln hK (q := 60)  dX8_align_59 rfl (z := e) rfl (k_aln hK (q := 61)  dX8_align_60 rfl (z := 32) rfl (k_gI hK (q := 64) (z := M 32 14) 0 dX8_align_61 rfl rf_X8_101 rfl rfl rfl rfl ?_))
    refine k_cge hK (q := 67) (t := 110) dX8_align_64 rfl rfl (fun h64 => ?_) (fun h64 => ?_)
    · have hee : e = cnt := by omega
      subst hee
      have hfl : full = ls := by
        rw [hfull]
        simp [wk]
      rw [hfl] at hX
      exact hX M hsm hf _ _
    · exact absurd (hmu (by omega)) (by omega)
  | succ n ih =>
    intro k M ls e p hk hs hf hsm hlk he hv hfull hmu
    have q14 : M 32 14 = cnt := by rw [hf.2 14 (by decide)]; exact h14
    have hT : T49 M = T49 M0 := by unfold T49; rw [hf.1 49 (by decide) (by decide)]
    refine k_iln hK (q := 60)  dX8_align_59 rfl (z := e) rfl (k_aln hK (q := 61)  dX8_align_60 rfl (z := 32) rfl (k_gI hK (q := 64) (z := M 32 14) 0 dX8_align_61 rfl rf_X8_101 rfl rfl rfl rfl ?_))
    refine k_cge hK (q := 67) (t := 110) dX8_align_64 rfl rfl (fun h64 => ?_) (fun h64 => ?_)
    · have hee : e = cnt := by omega
      subst hee
      have hfl : full = ls := by
        rw [hfull]
        rw [show wk S hp (T49 M0) e (n + 1) e p = [] by simp [wk]]; simp
      rw [hfl] at hX
      exact hX M hsm hf _ _
    · have hrs := hR.2 e (by omega) (by omega) p hv
      have hrs9 := hrs
      rw [← hT] at hrs9
      refine k_aln hK (q := 68)  dX8_align_67 rfl (z := 32) rfl (k_iln hK (q := 69)  dX8_align_68 rfl (z := e) rfl (k_iln hK (q := 70)  dX8_align_69 rfl (z := p) rfl ?_))
      refine k_iv2 hK (q := 73) dX8_align_70 rfl rm_X8_181 rfl rfl (Nat.le_of_ble_eq_true rfl) (xm_choose2 _ M e p S hs hS hp (by omega) hv (by rw [hf.1 40 (by decide) (by decide)]; exact h40) ls hsm (by omega) (by intro e2 p2 x1 x2 v2; rw [hf.1 49 (by decide) (by decide)]; exact hrr e2 p2 (by omega) (by omega) v2) hrs9) (fun r9 M5 h9 => ?_)
      obtain ⟨rfl, hs5, f5⟩ := h9
      rw [hT] at hs5
      obtain ⟨s, hso⟩ : ∃ s, s = opt S hp (T49 M0) e p := ⟨_, rfl⟩
      rw [← hso] at hs5
      have hTk := opt_ok hS hv hrs
      rw [← hso] at hTk
      have y33 : M5 32 33 = (ls.length : Nat) + 1 := by rw [hs5.1]; simp
      have ysl := hs5.2 ls.length s (by simp)
      rw [show ((ls.length : Nat) : Int) = M5 32 33 - 1 by omega] at ysl
      have hwk : full = (ls ++ [s]) ++ wk S hp (T49 M0) cnt n (if s.1 = 2 then e else e + 1) s.2.1 := by
        rw [hfull]
        simp only [wk]
        rw [if_neg (by omega), ← hso, List.append_assoc]
        rfl
      have hvs : vp S s.2.1 := by
        rcases hTk with h | h
        · exact Or.inr h.2.1
        · exact h.2.1
      have hk5 := hmu (by omega)
      show K 73 [some (vR 32), some (vI e), some (vI p)] [] M5
      refine k_aln hK (q := 74)  dX8_align_73 rfl (z := 32) rfl (k_gR hK (q := 77) (r := 51) dX8_align_74 rfl rf_X8_71 rfl rfl (k_aln hK (q := 78)  dX8_align_77 rfl (z := 32) rfl (k_gI hK (q := 81) (z := M5 32 33) 0 dX8_align_78 rfl rf_X8_168 rfl rfl rfl rfl (k_ic hK (q := 82)  dX8_align_81 rfl (by decide) (k_sub hK (q := 83)  dX8_align_82 rfl (z := (M5 32 33) - 1) rfl (by omega) ?_)))))
      refine k_ald hK (q := 84)  dX8_align_83 rfl (y := M5 51 ((M5 32 33) - 1)) rfl (by omega) rfl ?_
      rw [ysl.2.1]
      refine k_isn hK (q := 85)  dX8_align_84 rfl (L2 := [some (vR 32), some (vI e), some (vI s.2.1)]) (Nat.le_of_ble_eq_true rfl) rfl (k_iln hK (q := 86)  dX8_align_85 rfl (z := e) rfl (k_aln hK (q := 87)  dX8_align_86 rfl (z := 32) rfl (k_gR hK (q := 90) (r := 52) dX8_align_87 rfl rf_X8_74 rfl rfl (k_aln hK (q := 91)  dX8_align_90 rfl (z := 32) rfl (k_gI hK (q := 94) (z := M5 32 33) 0 dX8_align_91 rfl rf_X8_168 rfl rfl rfl rfl ?_)))))
      refine k_ic hK (q := 95)  dX8_align_94 rfl (by decide) (k_sub hK (q := 96)  dX8_align_95 rfl (z := (M5 32 33) - 1) rfl (by omega) (k_ald hK (q := 97)  dX8_align_96 rfl (y := M5 52 ((M5 32 33) - 1)) rfl (by omega) rfl ?_))
      rw [ysl.2.2.1]
      refine k_iflt hK (q := 100) (t := 104) dX8_align_97 rfl rfl (fun h97 => ?_) (fun h97 => ?_)
      · refine k_ic hK (q := 105)  dX8_align_104 rfl (by decide) (k_add hK (q := 106)  dX8_align_105 rfl (z := e + 0) rfl (by omega) (k_isn hK (q := 107)  dX8_align_106 rfl (L2 := [some (vR 32), some (vI (e + 0)), some (vI s.2.1)]) (Nat.le_of_ble_eq_true rfl) rfl (k_goto hK (t := 59) dX8_align_107 rfl ?_)))
        have hk2 : s.1 = 2 := by rcases hTk with h | h <;> omega
        rw [if_pos hk2] at hwk
        refine ih (k + 1) M5 (ls ++ [s]) _ s.2.1 (by omega) (by rw [scM_fr f5 (by decide) (by decide)]; exact hs) (frM_trans hf (frM_sub f5 (by decide) (by decide))) hs5 (by simp [hlk]) (by omega) hvs (by rw [Int.add_zero]; exact hwk) (fun q => ?_)
        rw [Int.add_zero] at q ⊢
        rcases hTk with h | h
        · have := mu_lt hS h.2.1 h.2.2.2.1
          omega
        · omega
      · refine k_ic hK (q := 101)  dX8_align_100 rfl (by decide) (k_goto hK (t := 105) dX8_align_101 rfl (k_add hK (q := 106)  dX8_align_105 rfl (z := e + 1) rfl (by omega) (k_isn hK (q := 107)  dX8_align_106 rfl (L2 := [some (vR 32), some (vI (e + 1)), some (vI s.2.1)]) (Nat.le_of_ble_eq_true rfl) rfl (k_goto hK (t := 59) dX8_align_107 rfl ?_))))
        have hk2 : ¬ s.1 = 2 := by rcases hTk with h | h <;> omega
        rw [if_neg hk2] at hwk
        refine ih (k + 1) M5 (ls ++ [s]) _ s.2.1 (by omega) (by rw [scM_fr f5 (by decide) (by decide)]; exact hs) (frM_trans hf (frM_sub f5 (by decide) (by decide))) hs5 (by simp [hlk]) (by omega) hvs hwk (fun q => ?_)
        have := mu_le S (T49 M0) (e + 1) s.2.1
        omega

set_option maxRecDepth 20000 in
set_option maxHeartbeats 2000000 in
theorem xm_align0 (d t : Nat) (M : ra_M) (S : Sc) (cnt : Int) (hp ht : Int → Int) (ses : Int) (bx du : Int → Int) (al : Al8) (hI : IM S cnt hp ht ses bx du al M) (hw : WF t S cnt hp ht ses bx al) (h0 : S 0 0 = 0) : Ex d m_X8_align [vR 32] M (PQ S cnt hp ht ses bx du al (-3) M) := by
  refine Ex_leaf (Nat.le_of_ble_eq_true rfl) (fun C K hK => ?_)
  show K 0 [some (vR 32), none, none] [] M
  have hK : ra_Clo _ m_X8_align cX8_align _ K := hK
  have hI0 := hI
  obtain ⟨hs, ⟨g14, g40, g41⟩, ⟨g15, g35, g36⟩, hF, hL⟩ := hI
  obtain ⟨hS, hc, hnn, hh, hse, hbx, hal⟩ := hw
  obtain ⟨e5, e6, e7, e8, e9⟩ := scM_e hs
  obtain ⟨a2, a3, a4, a5, a6⟩ := scM_a hs
  have hs0 := hS.1
  have hs1 := hS.2.1
  have hs2 := hS.2.2.1
  refine k_aln hK (q := 1)  dX8_align_0 rfl (z := 32) rfl (k_ic hK (q := 2)  dX8_align_1 rfl (by decide) (k_pI hK (q := 5) (M2 := up M 32 34 0) dX8_align_2 rfl rp_X8_83 rfl rfl rfl (k_aln hK (q := 6)  dX8_align_5 rfl (z := 32) rfl (k_gI hK (q := 9) (z := M 32 4) 0 dX8_align_6 rfl rf_X8_86 rfl rfl rfl rfl ?_))))
  refine k_ifne hK (q := 12) (t := 15) dX8_align_9 rfl rfl (fun h9 => ?_) (fun h9 => ?_)
  · exact absurd h9 (by omega)
  · refine k_bp hK (q := 14)  dX8_align_12 rfl (by decide) ?_
    refine k_ir hK dX8_align_14 rfl ?_
    exact PQ_same rfl hI0

set_option maxRecDepth 20000 in
set_option maxHeartbeats 2000000 in
theorem xm_align (d t : Nat) (M : ra_M) (S : Sc) (cnt : Int) (hp ht : Int → Int) (ses : Int) (bx du : Int → Int) (al : Al8) (hI : IM S cnt hp ht ses bx du al M) (hw : WF t S cnt hp ht ses bx al) (hn0 : S 0 0 ≠ 0) (sum : Int) (ls : List St4) (ha : AlS S hp cnt sum ls) : Ex (d + 3) m_X8_align [vR 32] M (fun r M2 => r = some (vI sum) ∧ IM S cnt hp ht ses bx du (some (sum, ls)) M2 ∧ moF M M2) := by
  refine Ex_call (Nat.le_of_ble_eq_true rfl) (fun K hK => ?_)
  show K 0 [some (vR 32), none, none] [] M
  have hK : ra_Clo _ m_X8_align cX8_align _ K := hK
  have hI0 := hI
  obtain ⟨hs, ⟨g14, g40, g41⟩, ⟨g15, g35, g36⟩, hF, hL⟩ := hI
  obtain ⟨hS, hc, hnn, hh, hse, hbx, hal⟩ := hw
  obtain ⟨e5, e6, e7, e8, e9⟩ := scM_e hs
  obtain ⟨a2, a3, a4, a5, a6⟩ := scM_a hs
  have hs0 := hS.1
  have hs1 := hS.2.1
  have hs2 := hS.2.2.1
  have J35 : ∀ M1 : ra_M, scM M1 = S → FdM S hp cnt M1 (-1) → frM [47, 48, 49] [25, 34] M M1 → ∀ z, K 35 [some (vR 32), some (vI z), none] [] M1 := by
    intro M1 hs1 hfd hf1 z
    refine k_aln hK (q := 36)  dX8_align_35 rfl (z := 32) rfl (k_ic hK (q := 37)  dX8_align_36 rfl (by decide) (k_pI hK (q := 40) (M2 := up M1 32 33 0) dX8_align_37 rfl rp_X8_168 rfl rfl rfl (k_aln hK (q := 41)  dX8_align_40 rfl (z := 32) rfl (k_aln hK (q := 42)  dX8_align_41 rfl (z := 32) rfl (k_gR hK (q := 45) (r := 49) dX8_align_42 rfl rf_X8_65 rfl rfl ?_)))))
    refine k_aln hK (q := 46)  dX8_align_45 rfl (z := 32) rfl (k_ic hK (q := 47)  dX8_align_46 rfl (by decide) (k_ic hK (q := 48)  dX8_align_47 rfl (by decide) ?_))
    refine k_iv2I hK (q := 51) dX8_align_48 rfl rm_X8_165 rfl rfl (Nat.le_of_ble_eq_true rfl) (xm_at _ (up M1 32 33 0) 0 (-1) (by omega) (by omega)) ?_
    refine k_ald hK (q := 52)  dX8_align_51 rfl (y := M1 49 (0 * 61 + (-1) + 1)) rfl (by omega) rfl (k_pI hK (q := 55) (M2 := up (up M1 32 33 0) 32 28 (M1 49 (0 * 61 + (-1) + 1))) dX8_align_52 rfl rp_X8_178 rfl rfl rfl (k_ic hK (q := 56)  dX8_align_55 rfl (by decide) (k_isn hK (q := 57)  dX8_align_56 rfl (L2 := [some (vR 32), some (vI 0), none]) (Nat.le_of_ble_eq_true rfl) rfl (k_ic hK (q := 58)  dX8_align_57 rfl (by decide) (k_isn hK (q := 59)  dX8_align_58 rfl (L2 := [some (vR 32), some (vI 0), some (vI (-1))]) (Nat.le_of_ble_eq_true rfl) rfl ?_)))))
    have hR1 : isR S hp cnt (T49 M1) := ⟨fun p hv => by have h3 := hfd.1 (p + 1) (vp_pn hS hv); unfold T49; rw [show cnt * 61 + p + 1 = cnt * 61 + (p + 1) by omega]; exact h3, fun e x1 x2 p hv => hfd.2.1 e (by omega) x1 x2 p hv⟩
    obtain ⟨R, ha1, ha2, ha3⟩ := ha
    have hsumE : sum = M1 49 (0 * 61 + (-1) + 1) := by rw [ha3, isR_eq hS ha1 hR1 (by omega) (Or.inl rfl)]; rfl
    have hlsE : ls = wk S hp (T49 M1) cnt 7320 0 (-1) := by rw [ha2]; exact wk_cong hS ha1 hR1 _ _ _ (by omega) (Or.inl rfl)
    have hfA : frM [47, 48, 49] [25, 28, 33, 34] M (up (up M1 32 33 0) 32 28 (M1 49 (0 * 61 + (-1) + 1))) := frM_fd (frM_fd (frM_sub hf1 (by decide) (by decide)) _ (by decide)) _ (by decide)
    have qT : T49 (up (up M1 32 33 0) 32 28 (M1 49 (0 * 61 + (-1) + 1))) = T49 M1 := by unfold T49; rw [up_k _ _ _ (by decide), up_k _ _ _ (by decide)]
    refine align_b hK hS (M0 := up (up M1 32 33 0) 32 28 (M1 49 (0 * 61 + (-1) + 1))) (hp := hp) hc (by rw [hfA.1 40 (by decide) (by decide)]; exact g40) (by rw [hfA.2 14 (by decide)]; exact g14) (by rw [qT]; exact hR1) (fun e2 p2 x1 x2 v2 => ?_) (full := ls) (fun M2 h2 f2 y z => ?_) 7320 0 _ [] 0 (-1) (by omega) (by rw [scM_fr hfA (by decide) (by decide)]; exact hs) (frM_refl _ _ _) ⟨by rw [up_j _ _ (by decide), up_same]; rfl, fun i s hi => by simp at hi⟩ rfl (by omega) (Or.inl rfl) (by rw [qT]; exact hlsE) (fun q => ?_)
    · rw [up_k _ _ _ (by decide), up_k _ _ _ (by decide)]
      have h3 := hfd.2.2 e2 (p2 + 1) (by omega) x1 x2 (vp_pn hS v2)
      rw [show e2 * 61 + (p2 + 1) = e2 * 61 + p2 + 1 by omega] at h3
      omega
    · skip
      refine k_aln hK (q := 111)  dX8_align_110 rfl (z := 32) rfl (k_ic hK (q := 112)  dX8_align_111 rfl (by decide) (k_pZ hK (q := 115) (M2 := up M2 32 27 1) dX8_align_112 rfl rp_X8_104 rfl rfl (by decide) rfl (k_aln hK (q := 116)  dX8_align_115 rfl (z := 32) rfl (k_gI hK (q := 119) (z := M2 32 28) 0 dX8_align_116 rfl rf_X8_178 rfl rfl rfl rfl ?_))))
      refine k_ir hK dX8_align_119 rfl ?_
      have f3 : frM [47, 48, 49, 50, 51, 52, 53] [25, 27, 28, 33, 34] M (up M2 32 27 1) := frM_fd (frM_trans (frM_sub hfA (by decide) (by decide)) (frM_sub f2 (by decide) (by decide))) _ (by decide)
      have hsum9 : M2 32 28 = sum := by rw [f2.2 28 (by decide), up_same]; exact hsumE.symm
      refine ⟨by rw [hsum9], ⟨by rw [scM_fr f3 (by decide) (by decide)]; exact hs, ⟨by rw [f3.2 14 (by decide)]; exact g14, by rw [f3.1 40 (by decide) (by decide)]; exact g40, by rw [f3.1 41 (by decide) (by decide)]; exact g41⟩, ⟨by rw [f3.2 15 (by decide)]; exact g15, by rw [f3.1 35 (by decide) (by decide)]; exact g35, by rw [f3.1 36 (by decide) (by decide)]; exact g36⟩, MF_f hF (f3.1 42 (by decide) (by decide)) (f3.2 19 (by decide)) (f3.2 22 (by decide)) (f3.1 45 (by decide) (by decide)) (f3.1 46 (by decide) (by decide)), by rw [up_same], ?_⟩, moF_M f3 (by decide)⟩
      exact SM_f h2 (up_j _ _ (by decide)) (up_k _ _ _ (by decide)) (up_k _ _ _ (by decide)) (up_k _ _ _ (by decide)) (up_k _ _ _ (by decide))
    · have := mu_le S (T49 (up (up M1 32 33 0) 32 28 (M1 49 (0 * 61 + (-1) + 1)))) 0 (-1)
      omega
  refine k_aln hK (q := 1)  dX8_align_0 rfl (z := 32) rfl (k_ic hK (q := 2)  dX8_align_1 rfl (by decide) (k_pI hK (q := 5) (M2 := up M 32 34 0) dX8_align_2 rfl rp_X8_83 rfl rfl rfl (k_aln hK (q := 6)  dX8_align_5 rfl (z := 32) rfl (k_gI hK (q := 9) (z := M 32 4) 0 dX8_align_6 rfl rf_X8_86 rfl rfl rfl rfl ?_))))
  refine k_ifne hK (q := 12) (t := 15) dX8_align_9 rfl rfl (fun h9 => ?_) (fun h9 => ?_)
  · refine k_aln hK (q := 16)  dX8_align_15 rfl (z := 32) rfl (k_gI hK (q := 19) (z := M 32 14) 0 dX8_align_16 rfl rf_X8_101 rfl rfl rfl rfl ?_)
    rw [g14]
    refine k_isn hK (q := 20)  dX8_align_19 rfl (L2 := [some (vR 32), some (vI cnt), none]) (Nat.le_of_ble_eq_true rfl) rfl (k_iln hK (q := 21)  dX8_align_20 rfl (z := cnt) rfl ?_)
    refine k_iflt hK (q := 24) (t := 35) dX8_align_21 rfl rfl (fun h21 => ?_) (fun h21 => ?_)
    · exact absurd h21 (by omega)
    · refine k_aln hK (q := 25)  dX8_align_24 rfl (z := 32) rfl (k_iln hK (q := 26)  dX8_align_25 rfl (z := cnt) rfl ?_)
      refine k_iv1 hK (q := 29) dX8_align_26 rfl rm_X8_175 rfl rfl (Nat.le_of_ble_eq_true rfl) (xm_left_z _ (up M 32 34 0) cnt S (by rw [scM_o2 _ _ _ (by decide)]; exact hs) hS hc (by rw [up_j _ _ (by decide)]; exact g14)) (fun r9 M5 h9 => ?_)
      obtain ⟨rfl, hz5, ho5, f5⟩ := h9
      have f6 : frM [47, 48, 49] [25, 34] M M5 := frM_trans (frM_fd (frM_refl _ _ _) _ (by decide)) (frM_sub f5 (by decide) (by decide))
      show K 29 [some (vR 32), some (vI cnt), none] [] M5
      refine k_inc hK (q := 32)  dX8_align_29 rfl (y := cnt + (-1)) (L2 := [some (vR 32), some (vI (cnt + (-1))), none]) rfl rfl (by omega) rfl (k_goto hK (t := 20) dX8_align_32 rfl ?_)
      rw [show cnt + (-1) = ((cnt.toNat : Nat) : Int) - 1 by omega]
      refine align_a hK hS (by omega) (M0 := M5) (hp := hp) hc (by rw [f6.1 40 (by decide) (by decide)]; exact g40) (by rw [f6.2 14 (by decide)]; exact g14) (fun M1 hs1 hfd hf1 z => J35 M1 hs1 hfd (frM_trans f6 (frM_sub hf1 (by decide) (by decide))) z) cnt.toNat M5 (by omega) (by rw [scM_fr f6 (by decide) (by decide)]; exact hs) ⟨hz5, fun e x1 x2 x3 => by omega, fun e j x1 x2 x3 hj => ?_⟩ (frM_refl _ _ _)
      have hec : e = cnt := by omega
      rw [hec, hz5 j hj]
      omega
  · exact absurd h9 (by omega)
