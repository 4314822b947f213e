/-! the COURSE, in the class -/
def cPl (n : Int) (ls : List St4) : Int := ((ls.countP (fun s => decide ((s.1 = 0 ∨ s.1 = 3) ∧ s.2.1 = n)) : Nat) : Int)
def cRt (S : Sc) (hp : Int → Int) (n : Int) (ls : List St4) : Int := ((ls.countP (fun s => decide (((s.1 = 0 ∨ s.1 = 3) ∧ S 1 n = hp s.2.2.1) ∧ s.2.1 = n)) : Nat) : Int)
def cPs (n : Int) (ls : List St4) : Int := ((ls.countP (fun s => decide (s.1 = 2 ∧ s.2.1 = n)) : Nat) : Int)
def mtF (ls : List St4) (ev : Int) : Int := ls.foldl (fun a s => if s.2.2.1 = ev ∧ s.1 ≠ 1 then s.2.1 else a) (-1)
theorem cPl_app (n : Int) (ls : List St4) (s : St4) : cPl n (ls ++ [s]) = cPl n ls + (if (s.1 = 0 ∨ s.1 = 3) ∧ s.2.1 = n then 1 else 0) := by
  unfold cPl
  rw [List.countP_append]
  by_cases h : (s.1 = 0 ∨ s.1 = 3) ∧ s.2.1 = n
  · rw [if_pos h]; simp [List.countP_cons, h]
  · rw [if_neg h]; simp [List.countP_cons, h]
theorem cRt_app (S : Sc) (hp : Int → Int) (n : Int) (ls : List St4) (s : St4) : cRt S hp n (ls ++ [s]) = cRt S hp n ls + (if ((s.1 = 0 ∨ s.1 = 3) ∧ S 1 n = hp s.2.2.1) ∧ s.2.1 = n then 1 else 0) := by
  unfold cRt
  rw [List.countP_append]
  by_cases h : ((s.1 = 0 ∨ s.1 = 3) ∧ S 1 n = hp s.2.2.1) ∧ s.2.1 = n
  · rw [if_pos h]; simp [List.countP_cons, h]
  · rw [if_neg h]; simp [List.countP_cons, h]
theorem cPs_app (n : Int) (ls : List St4) (s : St4) : cPs n (ls ++ [s]) = cPs n ls + (if s.1 = 2 ∧ s.2.1 = n then 1 else 0) := by
  unfold cPs
  rw [List.countP_append]
  by_cases h : s.1 = 2 ∧ s.2.1 = n
  · rw [if_pos h]; simp [List.countP_cons, h]
  · rw [if_neg h]; simp [List.countP_cons, h]
theorem mtF_app (ls : List St4) (s : St4) (ev : Int) : mtF (ls ++ [s]) ev = if s.2.2.1 = ev ∧ s.1 ≠ 1 then s.2.1 else mtF ls ev := by
  unfold mtF
  rw [List.foldl_append]
  rfl
theorem mtF_none : ∀ (ls : List St4) (ev a : Int), (∀ s ∈ ls, s.2.2.1 ≠ ev) → ls.foldl (fun a s => if s.2.2.1 = ev ∧ s.1 ≠ 1 then s.2.1 else a) a = a := by
  intro ls
  induction ls with
  | nil => intro ev a _; rfl
  | cons s ls ih =>
    intro ev a h
    rw [List.foldl_cons, if_neg (fun q => h s List.mem_cons_self q.1)]
    exact ih ev a (fun t ht => h t (List.mem_cons_of_mem _ ht))

def CA (S : Sc) (hp : Int → Int) (M : ra_M) (ls : List St4) : Prop := ∀ n, 0 ≤ n → n < 60 → M 26 n = cPl n ls ∧ M 27 n = cRt S hp n ls ∧ M 28 n = cPs n ls
def CM (M : ra_M) (ls : List St4) (e : Int) : Prop := ∀ ev, 0 ≤ ev → ev < e → M 25 ev = mtF ls ev
/-- the COURSE so far, EVENTS ahead of e taken -/
def WS (S : Sc) (hp : Int → Int) (M : ra_M) (ls : List St4) (e : Int) : Prop := M 21 12 = (ls.length : Nat) ∧ CA S hp M ls ∧ CM M ls e ∧ ∀ s ∈ ls, s.2.2.1 < e
def frW (M M2 : ra_M) : Prop := frX [21, 23, 24, 25, 26, 27, 28] M M2 ∧ ∀ j, j ≤ 11 → M2 21 j = M 21 j
theorem frW_trans {M M1 M2 : ra_M} (h : frW M M1) (h2 : frW M1 M2) : frW M M2 := ⟨frX_trans h.1 h2.1, fun j hj => (h2.2 j hj).trans (h.2 j hj)⟩
theorem frW_refl (M : ra_M) : frW M M := ⟨frX_refl _ _, fun _ _ => rfl⟩
theorem WS_fr {S : Sc} {hp : Int → Int} {M M2 : ra_M} {ls : List St4} {e : Int} (h : WS S hp M ls e) (hf : ∀ k, 25 ≤ k → k ≤ 28 → M2 k = M k) (h12 : M2 21 12 = M 21 12) : WS S hp M2 ls e := by
  refine ⟨by rw [h12]; exact h.1, fun n a b => ?_, fun ev a b => ?_, h.2.2.2⟩
  · rw [hf 26 (by omega) (by omega), hf 27 (by omega) (by omega), hf 28 (by omega) (by omega)]
    exact h.2.1 n a b
  · rw [hf 25 (by omega) (by omega)]
    exact h.2.2.1 ev a b
theorem WS_pass {S : Sc} {hp : Int → Int} {M M2 : ra_M} {ls : List St4} {e : Int} {s : St4} (h : WS S hp M ls e) (h12 : M2 21 12 = M 21 12 + 1) (h25 : M2 25 = M 25) (h26 : M2 26 = M 26) (h27 : M2 27 = M 27) (h28 : ∀ t, M2 28 t = if t = s.2.1 then M 28 t + 1 else M 28 t) (hk : s.1 = 2) (hv : s.2.2.1 = -1) (he : 0 ≤ e) : WS S hp M2 (ls ++ [s]) e := by
  refine ⟨by rw [h12, h.1]; simp, fun t a b => ?_, fun t a b => ?_, fun r hr => ?_⟩
  · have h9 := h.2.1 t a b
    rw [cPl_app, cRt_app, cPs_app, h26, h27, h28 t, if_neg (fun q => by have := q.1; omega), if_neg (fun q => by have := q.1.1; omega)]
    refine ⟨by omega, by omega, ?_⟩
    by_cases ht : t = s.2.1
    · rw [if_pos ht, if_pos ⟨hk, ht.symm⟩]; omega
    · rw [if_neg ht, if_neg (fun q => ht q.2.symm)]; omega
  · rw [mtF_app, h25, if_neg (fun q => by have := q.1; omega)]
    exact h.2.2.1 t a b
  · rcases List.mem_append.mp hr with q | q
    · exact h.2.2.2 r q
    · have := List.mem_singleton.mp q; subst this; omega
theorem CA_in {S : Sc} {hp : Int → Int} {M : ra_M} {ls : List St4} (h : CA S hp M ls) (hl : ls.length < 7320) {t : Int} (a : 0 ≤ t) (b : t < 60) : (0 ≤ M 26 t ∧ M 26 t < 7320) ∧ (0 ≤ M 27 t ∧ M 27 t < 7320) ∧ (0 ≤ M 28 t ∧ M 28 t < 7320) := by
  have h9 := h t a b
  have h10 := List.countP_le_length (p := fun s : St4 => decide ((s.1 = 0 ∨ s.1 = 3) ∧ s.2.1 = t)) (l := ls)
  have h11 := List.countP_le_length (p := fun s : St4 => decide (((s.1 = 0 ∨ s.1 = 3) ∧ S 1 t = hp s.2.2.1) ∧ s.2.1 = t)) (l := ls)
  have h12 := List.countP_le_length (p := fun s : St4 => decide (s.1 = 2 ∧ s.2.1 = t)) (l := ls)
  unfold cPl cRt cPs at h9
  omega

set_option maxRecDepth 20000 in
set_option maxHeartbeats 2000000 in
theorem t_chosen (d : Nat) (M : ra_M) (k t c : Int) : Ex d m_X1_chosen [vR 21, vI k, vI t, vI c] M (fun r M2 => r = some (vI 1) ∧ M2 = up (up (up M 21 13 k) 21 14 t) 21 15 c) := by
  refine Ex_leaf (Nat.le_of_ble_eq_true rfl) (fun C K hK => ?_)
  show K 0 [some (vR 21), some (vI k), some (vI t), some (vI c)] [] M
  have hK : ra_Clo _ m_X1_chosen cX1_chosen _ K := hK
  refine k_aln hK (q := 1)  dX1_chosen_0 rfl (z := 21) rfl (k_iln hK (q := 2)  dX1_chosen_1 rfl (z := k) rfl (k_pI hK (q := 5) (M2 := up M 21 13 k) dX1_chosen_2 rfl rp_X1_88 rfl rfl rfl (k_aln hK (q := 6)  dX1_chosen_5 rfl (z := 21) rfl (k_iln hK (q := 7)  dX1_chosen_6 rfl (z := t) rfl (k_pI hK (q := 10) (M2 := up (up M 21 13 k) 21 14 t) dX1_chosen_7 rfl rp_X1_85 rfl rfl rfl ?_)))))
  refine k_aln hK (q := 11)  dX1_chosen_10 rfl (z := 21) rfl (k_iln hK (q := 12)  dX1_chosen_11 rfl (z := c) rfl (k_pI hK (q := 15) (M2 := up (up (up M 21 13 k) 21 14 t) 21 15 c) dX1_chosen_12 rfl rp_X1_91 rfl rfl rfl (k_ic hK (q := 16)  dX1_chosen_15 rfl (by decide) ?_)))
  refine k_irz hK dX1_chosen_16 rfl (by decide) ?_
  exact ⟨rfl, rfl⟩

set_option maxRecDepth 20000 in
set_option maxHeartbeats 2000000 in
theorem forgetC_loop {C : Nat → List ra_V → ra_M → (Option ra_V → ra_M → Prop) → Prop} {Q : Option ra_V → ra_M → Prop} {K : Nat → ra_L → List ra_V → ra_M → Prop} (hK : ra_Clo C m_X1_forgetCourse cX1_forgetCourse Q K) {M0 : ra_M}
    (hQ : ∀ M : ra_M, (∀ n, 0 ≤ n → n < 60 → M 26 n = 0 ∧ M 27 n = 0 ∧ M 28 n = 0) → M 21 12 = 0 → frW M0 M → Q none M) :
    ∀ (n i : Nat) (M : ra_M), i + n = 60 → (∀ t : Nat, t < i → M 26 (t : Nat) = 0 ∧ M 27 (t : Nat) = 0 ∧ M 28 (t : Nat) = 0) → M 21 12 = 0 → frW M0 M → K 7 [some (vR 21), some (vI (i : Nat))] [] M := by
  intro n
  induction n with
  | zero =>
    intro i M hi hc h12 hf
    refine k_iln hK (q := 8)  dX1_forgetCourse_7 rfl (z := (i : Nat)) rfl (k_bp hK (q := 10)  dX1_forgetCourse_8 rfl (by decide) ?_)
    refine k_cge hK (q := 13) (t := 40) dX1_forgetCourse_10 rfl rfl (fun h10 => ?_) (fun h10 => ?_)
    · refine k_vr hK dX1_forgetCourse_40 rfl ?_
      exact hQ M (fun n a b => by have := hc n.toNat (by omega); rw [show ((n.toNat : Nat) : Int) = n by omega] at this; exact this) h12 hf
    · exact absurd h10 (by omega)
  | succ n ih =>
    intro i M hi hc h12 hf
    refine k_iln hK (q := 8)  dX1_forgetCourse_7 rfl (z := (i : Nat)) rfl (k_bp hK (q := 10)  dX1_forgetCourse_8 rfl (by decide) ?_)
    refine k_cge hK (q := 13) (t := 40) dX1_forgetCourse_10 rfl rfl (fun h10 => ?_) (fun h10 => ?_)
    · exact absurd h10 (by omega)
    · refine k_aln hK (q := 14)  dX1_forgetCourse_13 rfl (z := 21) rfl (k_gR hK (q := 17) (r := 26) dX1_forgetCourse_14 rfl rf_X1_24 rfl rfl (k_iln hK (q := 18)  dX1_forgetCourse_17 rfl (z := (i : Nat)) rfl (k_ic hK (q := 19)  dX1_forgetCourse_18 rfl (by decide) (k_ast hK (q := 20)  dX1_forgetCourse_19 rfl rfl (by omega) (k_aln hK (q := 21)  dX1_forgetCourse_20 rfl (z := 21) rfl ?_)))))
      refine k_gR hK (q := 24) (r := 27) dX1_forgetCourse_21 rfl rf_X1_27 rfl rfl (k_iln hK (q := 25)  dX1_forgetCourse_24 rfl (z := (i : Nat)) rfl (k_ic hK (q := 26)  dX1_forgetCourse_25 rfl (by decide) (k_ast hK (q := 27)  dX1_forgetCourse_26 rfl rfl (by omega) (k_aln hK (q := 28)  dX1_forgetCourse_27 rfl (z := 21) rfl (k_gR hK (q := 31) (r := 28) dX1_forgetCourse_28 rfl rf_X1_30 rfl rfl ?_)))))
      refine k_iln hK (q := 32)  dX1_forgetCourse_31 rfl (z := (i : Nat)) rfl (k_ic hK (q := 33)  dX1_forgetCourse_32 rfl (by decide) (k_ast hK (q := 34)  dX1_forgetCourse_33 rfl rfl (by omega) (k_inc hK (q := 37)  dX1_forgetCourse_34 rfl (y := (i : Nat) + 1) (L2 := [some (vR 21), some (vI ((i : Nat) + 1))]) rfl rfl (by omega) rfl (k_goto hK (t := 7) dX1_forgetCourse_37 rfl ?_))))
      refine ih (i + 1) _ (by omega) (fun t ht => ?_) (by simp [up]; exact h12) ⟨frX_up (frX_up (frX_up (hf.1) _ _ (by decide)) _ _ (by decide)) _ _ (by decide), fun j hj => by simp [up]; exact hf.2 j hj⟩
      by_cases h : t = i
      · subst h
        simp [up]
      · have := hc t (by omega)
        have hne : ((t : Nat) : Int) ≠ (i : Nat) := by omega
        simp [up, hne, this]

set_option maxRecDepth 20000 in
set_option maxHeartbeats 2000000 in
theorem xc_forgetC (d : Nat) (M : ra_M) : Ex d m_X1_forgetCourse [vR 21] M (fun r M2 => r = none ∧ (∀ n, 0 ≤ n → n < 60 → M2 26 n = 0 ∧ M2 27 n = 0 ∧ M2 28 n = 0) ∧ M2 21 12 = 0 ∧ frW M M2) := by
  refine Ex_leaf (Nat.le_of_ble_eq_true rfl) (fun C K hK => ?_)
  show K 0 [some (vR 21), none] [] M
  have hK : ra_Clo _ m_X1_forgetCourse cX1_forgetCourse _ K := hK
  refine k_aln hK (q := 1)  dX1_forgetCourse_0 rfl (z := 21) rfl (k_ic hK (q := 2)  dX1_forgetCourse_1 rfl (by decide) (k_pI hK (q := 5) (M2 := up M 21 12 0) dX1_forgetCourse_2 rfl rp_X1_144 rfl rfl rfl (k_ic hK (q := 6)  dX1_forgetCourse_5 rfl (by decide) (k_isn hK (q := 7)  dX1_forgetCourse_6 rfl (L2 := [some (vR 21), some (vI 0)]) (Nat.le_of_ble_eq_true rfl) rfl ?_))))
  exact forgetC_loop hK (M0 := M) (fun M2 h1 h2 h3 => ⟨rfl, h1, h2, h3⟩) 60 0 _ (by omega) (fun t ht => by omega) (by simp [up]) ⟨frX_up (frX_refl _ _) _ _ (by decide), fun j hj => up_j _ _ (by omega)⟩

set_option maxRecDepth 20000 in
set_option maxHeartbeats 2000000 in
theorem xc_match (d : Nat) (M : ra_M) (e c : Int) (S : Sc) (hs : scC M = S) (hS : okSc S) (ls : List St4) (hl12 : M 21 12 = (ls.length : Nat) + 1) (hca : CA S (M 8) M ls) (hcm : CM M ls e) (hlt : ∀ s ∈ ls, s.2.2.1 < e) (hk : M 21 13 = 0 ∨ M 21 13 = 1 ∨ M 21 13 = 3) (hn : M 21 13 ≠ 1 → 0 ≤ M 21 14 ∧ M 21 14 < 60) (he : 0 ≤ e ∧ e < 120) (hl : ls.length < 7320) : Ex d m_X1_match [vR 21, vI e] M (fun r M2 => r = none ∧ WS S (M 8) M2 (ls ++ [(M 21 13, M 21 14, e, c)]) (e + 1) ∧ frX [25, 26, 27] M M2) := by
  refine Ex_leaf (Nat.le_of_ble_eq_true rfl) (fun C K hK => ?_)
  show K 0 [some (vR 21), some (vI e), none] [] M
  have hK : ra_Clo _ m_X1_match cX1_match _ K := hK
  obtain ⟨a2, a3, a4, a5, a6⟩ := scC_a hs
  refine k_aln hK (q := 1)  dX1_match_0 rfl (z := 21) rfl (k_gI hK (q := 4) (z := M 21 13) 0 dX1_match_1 rfl rf_X1_88 rfl rfl rfl rfl (k_ic hK (q := 5)  dX1_match_4 rfl (by decide) ?_))
  refine k_cne hK (q := 8) (t := 12) dX1_match_5 rfl rfl (fun h5 => ?_) (fun h5 => ?_)
  · have hnn := hn h5
    have hin := CA_in hca hl hnn.1 hnn.2
    refine k_ic hK (q := 13)  dX1_match_12 rfl (by decide) (k_isn hK (q := 14)  dX1_match_13 rfl (L2 := [some (vR 21), some (vI e), some (vI 0)]) (Nat.le_of_ble_eq_true rfl) rfl (k_aln hK (q := 15)  dX1_match_14 rfl (z := 21) rfl (k_gR hK (q := 18) (r := 25) dX1_match_15 rfl rf_X1_21 rfl rfl (k_iln hK (q := 19)  dX1_match_18 rfl (z := e) rfl (k_iln hK (q := 20)  dX1_match_19 rfl (z := 0) rfl ?_)))))
    refine k_ifeq hK (q := 23) (t := 27) dX1_match_20 rfl rfl (fun _ => ?_) (fun h20 => absurd h20 (by decide))
    refine k_aln hK (q := 28)  dX1_match_27 rfl (z := 21) rfl (k_gI hK (q := 31) (z := M 21 14) 0 dX1_match_28 rfl rf_X1_85 rfl rfl rfl rfl (k_ast hK (q := 32)  dX1_match_31 rfl rfl (by omega) (k_iln hK (q := 33)  dX1_match_32 rfl (z := 0) rfl ?_)))
    refine k_ifeq hK (q := 36) (t := 37) dX1_match_33 rfl rfl (fun _ => ?_) (fun h33 => absurd h33 (by decide))
    refine k_aln hK (q := 38)  dX1_match_37 rfl (z := 21) rfl (k_gR hK (q := 41) (r := 26) dX1_match_38 rfl rf_X1_24 rfl rfl (k_aln hK (q := 42)  dX1_match_41 rfl (z := 21) rfl (k_gI hK (q := 45) (z := M 21 14) 0 dX1_match_42 rfl rf_X1_85 rfl rfl rfl rfl (k_dup2 hK (q := 46)  dX1_match_45 rfl rfl rfl (k_ald hK (q := 47)  dX1_match_46 rfl (y := M 26 (M 21 14)) rfl (by omega) rfl ?_)))))
    refine k_ic hK (q := 48)  dX1_match_47 rfl (by decide) (k_add hK (q := 49)  dX1_match_48 rfl (z := (M 26 (M 21 14)) + 1) rfl (by omega) (k_ast hK (q := 50)  dX1_match_49 rfl rfl (by omega) (k_aln hK (q := 51)  dX1_match_50 rfl (z := 21) rfl (k_gR hK (q := 54) (r := 1) dX1_match_51 rfl rf_X1_33 rfl rfl (k_gR hK (q := 57) (r := 2) dX1_match_54 rfl rf_X1_151 rfl rfl ?_)))))
    refine k_aln hK (q := 58)  dX1_match_57 rfl (z := 21) rfl (k_gI hK (q := 61) (z := M 21 14) 0 dX1_match_58 rfl rf_X1_85 rfl rfl rfl rfl (k_ald hK (q := 62)  dX1_match_61 rfl (y := M 2 (M 21 14)) rfl (by omega) rfl (k_aln hK (q := 63)  dX1_match_62 rfl (z := 21) rfl (k_gR hK (q := 66) (r := 7) dX1_match_63 rfl rf_X1_41 rfl rfl (k_gR hK (q := 69) (r := 8) dX1_match_66 rfl rf_X1_107 rfl rfl ?_)))))
    refine k_iln hK (q := 70)  dX1_match_69 rfl (z := e) rfl (k_ald hK (q := 71)  dX1_match_70 rfl (y := M 8 e) rfl (by omega) rfl ?_)
    refine k_cne hK (q := 74) (t := 87) dX1_match_71 rfl rfl (fun h71 => ?_) (fun h71 => ?_)
    · refine k_vr hK dX1_match_87 rfl ?_
      have hk1 : ¬ M 21 13 = 1 := h5
      refine ⟨rfl, ⟨?_, fun t a b => ?_, fun t a b => ?_, fun s hs2 => ?_⟩, frX_up (frX_up (frX_refl _ _) _ _ (by decide)) _ _ (by decide)⟩
      · rw [up_k _ _ _ (by decide)]; rw [up_k _ _ _ (by decide)]; rw [hl12]; simp
      · have h9 := hca t a b
        rw [cPl_app, cRt_app, cPs_app]
        simp only
        by_cases ht : t = M 21 14
        · subst ht
          have c1 : (M 21 13 = 0 ∨ M 21 13 = 3) ∧ M 21 14 = M 21 14 := ⟨by omega, rfl⟩
          have c3 : ¬ (M 21 13 = 2 ∧ M 21 14 = M 21 14) := by omega
          rw [if_pos c1, if_neg c3, if_neg (fun q => h71 (by rw [a2]; exact q.1.2))]
          refine ⟨?_, ?_, ?_⟩ <;> simp [up] <;> omega
        · rw [if_neg (fun q => ht q.2.symm), if_neg (fun q => ht q.2.symm), if_neg (fun q => ht q.2.symm)]
          refine ⟨?_, ?_, ?_⟩ <;> simp [up, ht] <;> omega
      · rw [mtF_app]
        simp only
        by_cases ht : t = e
        · subst ht
          rw [if_pos ⟨rfl, hk1⟩]
          simp [up]
        · rw [if_neg (fun q => ht q.1.symm), ← hcm t a (by omega)]
          simp [up, ht]
      · rcases List.mem_append.mp hs2 with q | q
        · have := hlt s q; omega
        · have := List.mem_singleton.mp q; subst this; simp only; omega
    · refine k_aln hK (q := 75)  dX1_match_74 rfl (z := 21) rfl (k_gR hK (q := 78) (r := 27) dX1_match_75 rfl rf_X1_27 rfl rfl (k_aln hK (q := 79)  dX1_match_78 rfl (z := 21) rfl (k_gI hK (q := 82) (z := M 21 14) 0 dX1_match_79 rfl rf_X1_85 rfl rfl rfl rfl (k_dup2 hK (q := 83)  dX1_match_82 rfl rfl rfl (k_ald hK (q := 84)  dX1_match_83 rfl (y := M 27 (M 21 14)) rfl (by omega) rfl ?_)))))
      refine k_ic hK (q := 85)  dX1_match_84 rfl (by decide) (k_add hK (q := 86)  dX1_match_85 rfl (z := (M 27 (M 21 14)) + 1) rfl (by omega) (k_ast hK (q := 87)  dX1_match_86 rfl rfl (by omega) ?_))
      refine k_vr hK dX1_match_87 rfl ?_
      have hk1 : ¬ M 21 13 = 1 := h5
      refine ⟨rfl, ⟨?_, fun t a b => ?_, fun t a b => ?_, fun s hs2 => ?_⟩, frX_up (frX_up (frX_up (frX_refl _ _) _ _ (by decide)) _ _ (by decide)) _ _ (by decide)⟩
      · rw [up_k _ _ _ (by decide)]; rw [up_k _ _ _ (by decide)]; rw [up_k _ _ _ (by decide)]; rw [hl12]; simp
      · have h9 := hca t a b
        rw [cPl_app, cRt_app, cPs_app]
        simp only
        by_cases ht : t = M 21 14
        · subst ht
          have c1 : (M 21 13 = 0 ∨ M 21 13 = 3) ∧ M 21 14 = M 21 14 := ⟨by omega, rfl⟩
          have c3 : ¬ (M 21 13 = 2 ∧ M 21 14 = M 21 14) := by omega
          rw [if_pos c1, if_neg c3, if_pos ⟨⟨by omega, by rw [← a2]; omega⟩, rfl⟩]
          refine ⟨?_, ?_, ?_⟩ <;> simp [up] <;> omega
        · rw [if_neg (fun q => ht q.2.symm), if_neg (fun q => ht q.2.symm), if_neg (fun q => ht q.2.symm)]
          refine ⟨?_, ?_, ?_⟩ <;> simp [up, ht] <;> omega
      · rw [mtF_app]
        simp only
        by_cases ht : t = e
        · subst ht
          rw [if_pos ⟨rfl, hk1⟩]
          simp [up]
        · rw [if_neg (fun q => ht q.1.symm), ← hcm t a (by omega)]
          simp [up, ht]
      · rcases List.mem_append.mp hs2 with q | q
        · have := hlt s q; omega
        · have := List.mem_singleton.mp q; subst this; simp only; omega
  · refine k_ic hK (q := 9)  dX1_match_8 rfl (by decide) (k_goto hK (t := 13) dX1_match_9 rfl (k_isn hK (q := 14)  dX1_match_13 rfl (L2 := [some (vR 21), some (vI e), some (vI 1)]) (Nat.le_of_ble_eq_true rfl) rfl (k_aln hK (q := 15)  dX1_match_14 rfl (z := 21) rfl (k_gR hK (q := 18) (r := 25) dX1_match_15 rfl rf_X1_21 rfl rfl (k_iln hK (q := 19)  dX1_match_18 rfl (z := e) rfl ?_)))))
    refine k_iln hK (q := 20)  dX1_match_19 rfl (z := 1) rfl ?_
    refine k_ifeq hK (q := 23) (t := 27) dX1_match_20 rfl rfl (fun h20 => absurd h20 (by decide)) (fun _ => ?_)
    refine k_ic hK (q := 24)  dX1_match_23 rfl (by decide) (k_goto hK (t := 31) dX1_match_24 rfl (k_ast hK (q := 32)  dX1_match_31 rfl rfl (by omega) (k_iln hK (q := 33)  dX1_match_32 rfl (z := 1) rfl ?_)))
    refine k_ifeq hK (q := 36) (t := 37) dX1_match_33 rfl rfl (fun h33 => absurd h33 (by decide)) (fun _ => ?_)
    refine k_vr hK dX1_match_36 rfl ?_
    have hk1 : M 21 13 = 1 := h5
    refine ⟨rfl, ⟨by rw [up_k _ _ _ (by decide), hl12]; simp, fun t a b => ?_, fun t a b => ?_, fun s hs2 => ?_⟩, frX_up (frX_refl _ _) _ _ (by decide)⟩
    · have h9 := hca t a b
      rw [cPl_app, cRt_app, cPs_app, up_k _ _ _ (by decide), up_k _ _ _ (by decide), up_k _ _ _ (by decide)]
      simp only
      rw [if_neg (fun q => by have := q.1; omega), if_neg (fun q => by have := q.1.1; omega), if_neg (fun q => by have := q.1; omega)]
      omega
    · rw [mtF_app]
      simp only
      rw [if_neg (fun q => q.2 hk1)]
      by_cases ht : t = e
      · subst ht
        have := mtF_none ls t (-1) (fun s hs3 => by have := hlt s hs3; omega)
        unfold mtF
        rw [this, up_same]
      · rw [← hcm t a (by omega), up_j _ _ ht]
    · rcases List.mem_append.mp hs2 with q | q
      · have := hlt s q; omega
      · have := List.mem_singleton.mp q; subst this; simp only; omega
