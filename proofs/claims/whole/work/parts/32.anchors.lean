/-! ANCHORS: (EVENT, note) -/
abbrev An : Type := List (Int × Int)
def lk (S : Sc) (hp : Int → Int) (an : An) (ev pl : Int) : An :=
  if (0 ≤ pl ∧ pl < S 0 0) ∧ S 1 pl = hp ev then (match an.getLast? with
    | some q => if pl ≤ q.2 then [(ev, pl)] else an ++ [(ev, pl)]
    | none => [(ev, pl)]) else an
def okAn (S : Sc) (k : Int) (an : An) : Prop := (∀ (i : Nat) (q : Int × Int), an[i]? = some q → 0 ≤ q.1 ∧ q.1 < k ∧ (i : Int) ≤ q.2 ∧ q.2 < S 0 0) ∧ ∀ (i j : Nat) (q r : Int × Int), i < j → an[i]? = some q → an[j]? = some r → q.2 < r.2 ∧ q.1 ≤ r.1
theorem okAn_one {S : Sc} {k ev pl : Int} (h : 0 ≤ ev ∧ ev < k) (hp : 0 ≤ pl ∧ pl < S 0 0) : okAn S k [(ev, pl)] := by
  refine ⟨fun i q hi => ?_, fun i j q r hij hi hj => ?_⟩
  · have := (List.getElem?_eq_some_iff.mp hi).1
    simp at this
    subst this
    simp at hi
    subst hi
    exact ⟨h.1, h.2, by simp; omega, hp.2⟩
  · have h1 := (List.getElem?_eq_some_iff.mp hj).1
    simp at h1
    omega
theorem okAn_mono {S : Sc} {k m : Int} {an : An} (h : okAn S k an) (hk : k ≤ m) : okAn S m an := ⟨fun i q hi => by have := h.1 i q hi; exact ⟨this.1, by omega, this.2.2⟩, h.2⟩
theorem last_at {an : An} {q : Int × Int} (h : an.getLast? = some q) : 0 < an.length ∧ an[an.length - 1]? = some q := by
  rw [List.getLast?_eq_getElem?] at h
  exact ⟨by have := (List.getElem?_eq_some_iff.mp h).1; omega, h⟩
theorem okAn_app {S : Sc} {k ev pl : Int} {an : An} {q : Int × Int} (h : okAn S k an) (hk : 0 ≤ k) (hq : an.getLast? = some q) (hev : ev = k) (hp : q.2 < pl ∧ pl < S 0 0) : okAn S (k + 1) (an ++ [(ev, pl)]) := by
  obtain ⟨hl0, hl⟩ := last_at hq
  have hlast := h.1 _ _ hl
  refine ⟨fun i r hi => ?_, fun i j r t hij hi hj => ?_⟩
  · by_cases hlt : i < an.length
    · rw [List.getElem?_append_left hlt] at hi
      have := h.1 i r hi
      exact ⟨this.1, by omega, this.2.2⟩
    · have h1 := (List.getElem?_eq_some_iff.mp hi).1
      simp at h1
      have h2 : i = an.length := by omega
      subst h2
      simp at hi
      subst hi
      exact ⟨by simp only; omega, by simp only; omega, by simp only; omega, hp.2⟩
  · have h1 := (List.getElem?_eq_some_iff.mp hj).1
    simp at h1
    have hlt : i < an.length := by omega
    rw [List.getElem?_append_left hlt] at hi
    by_cases hjt : j < an.length
    · rw [List.getElem?_append_left hjt] at hj
      exact h.2 i j r t hij hi hj
    · have h2 : j = an.length := by omega
      subst h2
      simp at hj
      subst hj
      have h3 := h.1 i r hi
      simp only
      by_cases h4 : i = an.length - 1
      · subst h4
        rw [hl] at hi
        cases hi
        omega
      · have := h.2 i (an.length - 1) r q (by omega) hi hl
        omega
theorem okAn_lk {S : Sc} {hp : Int → Int} {k pl : Int} {an : An} (h : okAn S k an) (hk : 0 ≤ k) : okAn S (k + 1) (lk S hp an k pl) := by
  unfold lk
  split
  next hc =>
    cases hq : an.getLast? with
    | none => exact okAn_one ⟨hk, by omega⟩ hc.1
    | some q =>
      simp only
      split
      · exact okAn_one ⟨hk, by omega⟩ hc.1
      · exact okAn_app h hk hq rfl ⟨by omega, hc.1.2⟩
  next => exact okAn_mono h (by omega)
theorem okAn_len {S : Sc} (hS : okSc S) {k : Int} {an : An} (h : okAn S k an) : an.length ≤ 60 := by
  have h0 := hS.1
  cases hq : an.getLast? with
  | none => rw [List.getLast?_eq_none_iff] at hq; subst hq; simp
  | some q => obtain ⟨hl0, hl⟩ := last_at hq; have := h.1 _ _ hl; omega
def AnC (M : ra_M) (an : An) : Prop := M 18 4 = (an.length : Nat) ∧ ∀ (i : Nat) (q : Int × Int), an[i]? = some q → M 19 (i : Nat) = q.1 ∧ M 20 (i : Nat) = q.2
theorem AnC_app {M M2 : ra_M} {an : An} {ev pl : Int} (h : AnC M an) (h1 : M2 18 4 = M 18 4 + 1) (h2 : M2 19 = (up M 19 (M 18 4) ev) 19) (h3 : M2 20 = (up M 20 (M 18 4) pl) 20) : AnC M2 (an ++ [(ev, pl)]) := by
  refine ⟨by rw [h1, h.1]; simp, fun i t hi => ?_⟩
  rw [h2, h3]
  by_cases hl : i < an.length
  · rw [List.getElem?_append_left hl] at hi
    have := h.1
    rw [up_j _ _ (by omega), up_j _ _ (by omega)]
    exact h.2 i t hi
  · have hil := (List.getElem?_eq_some_iff.mp hi).1
    simp at hil
    have hi2 : i = an.length := by omega
    subst hi2
    simp at hi
    subst hi
    rw [h.1, up_same, up_same]
    exact ⟨rfl, rfl⟩
theorem AnC_nil {M : ra_M} (h : M 18 4 = 0) : AnC M [] := ⟨by rw [h]; rfl, fun i q hi => by simp at hi⟩

set_option maxRecDepth 20000 in
set_option maxHeartbeats 2000000 in
theorem xc_look (d : Nat) (M : ra_M) (ev pl : Int) (S : Sc) (hs : scC M = S) (hS : okSc S) (an : An) (ha : AnC M an) (ho : okAn S ev an) (hev : 0 ≤ ev ∧ ev < 120) : Ex (d + 1) m_X0_look [vR 18, vI ev, vI pl] M (fun r M2 => r = none ∧ AnC M2 (lk S (M 8) an ev pl) ∧ frX [18, 19, 20] M M2) := by
  refine Ex_call (Nat.le_of_ble_eq_true rfl) (fun K hK => ?_)
  show K 0 [some (vR 18), some (vI ev), some (vI pl)] [] M
  have hK : ra_Clo _ m_X0_look cX0_look _ K := hK
  obtain ⟨e5, e6, e7, e8, e9⟩ := scC_e hs
  obtain ⟨a2, a3, a4, a5, a6⟩ := scC_a hs
  have hs0 := hS.1
  have hl := ha.1
  have hlen := okAn_len hS ho
  refine k_aln hK (q := 1)  dX0_look_0 rfl (z := 18) rfl (k_gR hK (q := 4) (r := 1) dX0_look_1 rfl rf_X0_18 rfl rfl (k_iln hK (q := 5)  dX0_look_4 rfl (z := pl) rfl ?_))
  refine k_iv1I hK (q := 8) dX0_look_5 rfl rm_X0_26 rfl rfl (Nat.le_of_ble_eq_true rfl) (t_isNote _ M pl) ?_
  refine k_ifeq hK (q := 11) (t := 32) dX0_look_8 rfl rfl (fun h8 => ?_) (fun h8 => ?_)
  · have h8 := bi_0.mp h8
    refine k_vr hK dX0_look_32 rfl ?_
    refine ⟨rfl, ?_, frX_refl _ _⟩
    unfold lk
    rw [if_neg ?_]
    · exact ha
    · rw [← e5, ← a2]
      exact fun q => by first | exact h8 q.1 | exact h29 q.2
  · have h8 := bi_1.mp h8
    refine k_aln hK (q := 12)  dX0_look_11 rfl (z := 18) rfl (k_gR hK (q := 15) (r := 1) dX0_look_12 rfl rf_X0_18 rfl rfl (k_gR hK (q := 18) (r := 2) dX0_look_15 rfl rf_X0_32 rfl rfl (k_iln hK (q := 19)  dX0_look_18 rfl (z := pl) rfl (k_ald hK (q := 20)  dX0_look_19 rfl (y := M 2 pl) rfl (by omega) rfl (k_aln hK (q := 21)  dX0_look_20 rfl (z := 18) rfl ?_)))))
    refine k_gR hK (q := 24) (r := 7) dX0_look_21 rfl rf_X0_22 rfl rfl (k_gR hK (q := 27) (r := 8) dX0_look_24 rfl rf_X0_35 rfl rfl (k_iln hK (q := 28)  dX0_look_27 rfl (z := ev) rfl (k_ald hK (q := 29)  dX0_look_28 rfl (y := M 8 ev) rfl (by omega) rfl ?_)))
    refine k_ceq hK (q := 32) (t := 33) dX0_look_29 rfl rfl (fun h29 => ?_) (fun h29 => ?_)
    · have hc : (0 ≤ pl ∧ pl < S 0 0) ∧ S 1 pl = M 8 ev := ⟨by omega, by rw [← a2]; exact h29⟩
      refine k_aln hK (q := 34)  dX0_look_33 rfl (z := 18) rfl (k_gI hK (q := 37) (z := M 18 4) 0 dX0_look_34 rfl rf_X0_38 rfl rfl rfl rfl ?_)
      refine k_ifle hK (q := 40) (t := 60) dX0_look_37 rfl rfl (fun h37 => ?_) (fun h37 => ?_)
      · refine k_aln hK (q := 61)  dX0_look_60 rfl (z := 18) rfl (k_gI hK (q := 64) (z := M 18 4) 0 dX0_look_61 rfl rf_X0_38 rfl rfl rfl rfl (k_bp hK (q := 66)  dX0_look_64 rfl (by decide) ?_))
        refine k_clt hK (q := 69) (t := 70) dX0_look_66 rfl rfl (fun h66 => ?_) (fun h66 => ?_)
        · refine k_aln hK (q := 71)  dX0_look_70 rfl (z := 18) rfl (k_gR hK (q := 74) (r := 19) dX0_look_71 rfl rf_X0_9 rfl rfl (k_aln hK (q := 75)  dX0_look_74 rfl (z := 18) rfl (k_gI hK (q := 78) (z := M 18 4) 0 dX0_look_75 rfl rf_X0_38 rfl rfl rfl rfl (k_iln hK (q := 79)  dX0_look_78 rfl (z := ev) rfl (k_ast hK (q := 80)  dX0_look_79 rfl rfl (by omega) ?_)))))
          refine k_aln hK (q := 81)  dX0_look_80 rfl (z := 18) rfl (k_gR hK (q := 84) (r := 20) dX0_look_81 rfl rf_X0_15 rfl rfl (k_aln hK (q := 85)  dX0_look_84 rfl (z := 18) rfl (k_gI hK (q := 88) (z := M 18 4) 0 dX0_look_85 rfl rf_X0_38 rfl rfl rfl rfl (k_iln hK (q := 89)  dX0_look_88 rfl (z := pl) rfl (k_ast hK (q := 90)  dX0_look_89 rfl rfl (by omega) ?_)))))
          refine k_aln hK (q := 91)  dX0_look_90 rfl (z := 18) rfl (k_dup hK (q := 92)  dX0_look_91 rfl rfl (k_gI hK (q := 95) (z := M 18 4) 0 dX0_look_92 rfl rf_X0_38 rfl rfl rfl rfl (k_ic hK (q := 96)  dX0_look_95 rfl (by decide) (k_add hK (q := 97)  dX0_look_96 rfl (z := (M 18 4) + 1) rfl (by omega) (k_pI hK (q := 100) (M2 := up (up (up M 19 (M 18 4) ev) 20 (M 18 4) pl) 18 4 ((M 18 4) + 1)) dX0_look_97 rfl rp_X0_38 rfl rfl rfl ?_)))))
          refine k_vr hK dX0_look_100 rfl ?_
          refine ⟨rfl, ?_, frX_up (frX_up (frX_up (frX_refl _ _) _ _ (by decide)) _ _ (by decide)) _ _ (by decide)⟩
          have key := AnC_app (M2 := up (up (up M 19 (M 18 4) ev) 20 (M 18 4) pl) 18 4 ((M 18 4) + 1)) (ev := ev) (pl := pl) ha (by simp [up]) (by funext j; simp [up]) (by funext j; simp [up])
          unfold lk
          rw [if_pos hc]
          cases hq : an.getLast? with
          | none => rw [List.getLast?_eq_none_iff] at hq; subst hq; simpa using key
          | some q =>
            obtain ⟨hl0, hlq⟩ := last_at hq
            have hq2 := (ha.2 _ _ hlq).2
            rw [show (((an.length - 1 : Nat) : Nat) : Int) = M 18 4 - 1 by omega] at hq2
            simp only
            rw [if_neg (by omega)]
            exact key
        · exfalso
          cases hq : an.getLast? with
          | none => rw [List.getLast?_eq_none_iff] at hq; subst hq; simp at hl; omega
          | some q =>
            obtain ⟨hl0, hlq⟩ := last_at hq
            have hq2 := (ha.2 _ _ hlq).2
            have hq3 := ho.1 _ _ hlq
            rw [show (((an.length - 1 : Nat) : Nat) : Int) = M 18 4 - 1 by omega] at hq2
            omega
      · refine k_iln hK (q := 41)  dX0_look_40 rfl (z := pl) rfl (k_aln hK (q := 42)  dX0_look_41 rfl (z := 18) rfl (k_gR hK (q := 45) (r := 20) dX0_look_42 rfl rf_X0_15 rfl rfl (k_aln hK (q := 46)  dX0_look_45 rfl (z := 18) rfl (k_gI hK (q := 49) (z := M 18 4) 0 dX0_look_46 rfl rf_X0_38 rfl rfl rfl rfl (k_ic hK (q := 50)  dX0_look_49 rfl (by decide) ?_)))))
        refine k_sub hK (q := 51)  dX0_look_50 rfl (z := (M 18 4) - 1) rfl (by omega) (k_ald hK (q := 52)  dX0_look_51 rfl (y := M 20 ((M 18 4) - 1)) rfl (by omega) rfl ?_)
        refine k_cgt hK (q := 55) (t := 60) dX0_look_52 rfl rfl (fun h52 => ?_) (fun h52 => ?_)
        · refine k_aln hK (q := 61)  dX0_look_60 rfl (z := 18) rfl (k_gI hK (q := 64) (z := M 18 4) 0 dX0_look_61 rfl rf_X0_38 rfl rfl rfl rfl (k_bp hK (q := 66)  dX0_look_64 rfl (by decide) ?_))
          refine k_clt hK (q := 69) (t := 70) dX0_look_66 rfl rfl (fun h66 => ?_) (fun h66 => ?_)
          · refine k_aln hK (q := 71)  dX0_look_70 rfl (z := 18) rfl (k_gR hK (q := 74) (r := 19) dX0_look_71 rfl rf_X0_9 rfl rfl (k_aln hK (q := 75)  dX0_look_74 rfl (z := 18) rfl (k_gI hK (q := 78) (z := M 18 4) 0 dX0_look_75 rfl rf_X0_38 rfl rfl rfl rfl (k_iln hK (q := 79)  dX0_look_78 rfl (z := ev) rfl (k_ast hK (q := 80)  dX0_look_79 rfl rfl (by omega) ?_)))))
            refine k_aln hK (q := 81)  dX0_look_80 rfl (z := 18) rfl (k_gR hK (q := 84) (r := 20) dX0_look_81 rfl rf_X0_15 rfl rfl (k_aln hK (q := 85)  dX0_look_84 rfl (z := 18) rfl (k_gI hK (q := 88) (z := M 18 4) 0 dX0_look_85 rfl rf_X0_38 rfl rfl rfl rfl (k_iln hK (q := 89)  dX0_look_88 rfl (z := pl) rfl (k_ast hK (q := 90)  dX0_look_89 rfl rfl (by omega) ?_)))))
            refine k_aln hK (q := 91)  dX0_look_90 rfl (z := 18) rfl (k_dup hK (q := 92)  dX0_look_91 rfl rfl (k_gI hK (q := 95) (z := M 18 4) 0 dX0_look_92 rfl rf_X0_38 rfl rfl rfl rfl (k_ic hK (q := 96)  dX0_look_95 rfl (by decide) (k_add hK (q := 97)  dX0_look_96 rfl (z := (M 18 4) + 1) rfl (by omega) (k_pI hK (q := 100) (M2 := up (up (up M 19 (M 18 4) ev) 20 (M 18 4) pl) 18 4 ((M 18 4) + 1)) dX0_look_97 rfl rp_X0_38 rfl rfl rfl ?_)))))
            refine k_vr hK dX0_look_100 rfl ?_
            refine ⟨rfl, ?_, frX_up (frX_up (frX_up (frX_refl _ _) _ _ (by decide)) _ _ (by decide)) _ _ (by decide)⟩
            have key := AnC_app (M2 := up (up (up M 19 (M 18 4) ev) 20 (M 18 4) pl) 18 4 ((M 18 4) + 1)) (ev := ev) (pl := pl) ha (by simp [up]) (by funext j; simp [up]) (by funext j; simp [up])
            unfold lk
            rw [if_pos hc]
            cases hq : an.getLast? with
            | none => rw [List.getLast?_eq_none_iff] at hq; subst hq; simpa using key
            | some q =>
              obtain ⟨hl0, hlq⟩ := last_at hq
              have hq2 := (ha.2 _ _ hlq).2
              rw [show (((an.length - 1 : Nat) : Nat) : Int) = M 18 4 - 1 by omega] at hq2
              simp only
              rw [if_neg (by omega)]
              exact key
          · exfalso
            cases hq : an.getLast? with
            | none => rw [List.getLast?_eq_none_iff] at hq; subst hq; simp at hl; omega
            | some q =>
              obtain ⟨hl0, hlq⟩ := last_at hq
              have hq2 := (ha.2 _ _ hlq).2
              have hq3 := ho.1 _ _ hlq
              rw [show (((an.length - 1 : Nat) : Nat) : Int) = M 18 4 - 1 by omega] at hq2
              omega
        · refine k_aln hK (q := 56)  dX0_look_55 rfl (z := 18) rfl (k_ic hK (q := 57)  dX0_look_56 rfl (by decide) (k_pI hK (q := 60) (M2 := up M 18 4 0) dX0_look_57 rfl rp_X0_38 rfl rfl rfl (k_aln hK (q := 61)  dX0_look_60 rfl (z := 18) rfl (k_gI hK (q := 64) (z := 0) 0 dX0_look_61 rfl rf_X0_38 rfl rfl rfl rfl (k_bp hK (q := 66)  dX0_look_64 rfl (by decide) ?_)))))
          refine k_clt hK (q := 69) (t := 70) dX0_look_66 rfl rfl (fun h66 => ?_) (fun h66 => ?_)
          · refine k_aln hK (q := 71)  dX0_look_70 rfl (z := 18) rfl (k_gR hK (q := 74) (r := 19) dX0_look_71 rfl rf_X0_9 rfl rfl (k_aln hK (q := 75)  dX0_look_74 rfl (z := 18) rfl (k_gI hK (q := 78) (z := 0) 0 dX0_look_75 rfl rf_X0_38 rfl rfl rfl rfl (k_iln hK (q := 79)  dX0_look_78 rfl (z := ev) rfl (k_ast hK (q := 80)  dX0_look_79 rfl rfl (by omega) ?_)))))
            refine k_aln hK (q := 81)  dX0_look_80 rfl (z := 18) rfl (k_gR hK (q := 84) (r := 20) dX0_look_81 rfl rf_X0_15 rfl rfl (k_aln hK (q := 85)  dX0_look_84 rfl (z := 18) rfl (k_gI hK (q := 88) (z := 0) 0 dX0_look_85 rfl rf_X0_38 rfl rfl rfl rfl (k_iln hK (q := 89)  dX0_look_88 rfl (z := pl) rfl (k_ast hK (q := 90)  dX0_look_89 rfl rfl (by omega) ?_)))))
            refine k_aln hK (q := 91)  dX0_look_90 rfl (z := 18) rfl (k_dup hK (q := 92)  dX0_look_91 rfl rfl (k_gI hK (q := 95) (z := 0) 0 dX0_look_92 rfl rf_X0_38 rfl rfl rfl rfl (k_ic hK (q := 96)  dX0_look_95 rfl (by decide) (k_add hK (q := 97)  dX0_look_96 rfl (z := 0 + 1) rfl (by omega) (k_pI hK (q := 100) (M2 := up (up (up (up M 18 4 0) 19 0 ev) 20 0 pl) 18 4 (0 + 1)) dX0_look_97 rfl rp_X0_38 rfl rfl rfl ?_)))))
            refine k_vr hK dX0_look_100 rfl ?_
            refine ⟨rfl, ?_, frX_up (frX_up (frX_up (frX_up (frX_refl _ _) _ _ (by decide)) _ _ (by decide)) _ _ (by decide)) _ _ (by decide)⟩
            unfold lk
            rw [if_pos hc]
            cases hq : an.getLast? with
            | none => rw [List.getLast?_eq_none_iff] at hq; subst hq; simp at hl; omega
            | some q =>
              obtain ⟨hl0, hlq⟩ := last_at hq
              have hq2 := (ha.2 _ _ hlq).2
              rw [show (((an.length - 1 : Nat) : Nat) : Int) = M 18 4 - 1 by omega] at hq2
              simp only
              rw [if_pos (by omega)]
              exact AnC_app (an := []) (AnC_nil (M := up M 18 4 0) (by simp [up])) (by simp [up]) (by funext j; simp [up]) (by funext j; simp [up])
          · exact absurd h66 (by simp [up])
    · refine k_vr hK dX0_look_32 rfl ?_
      refine ⟨rfl, ?_, frX_refl _ _⟩
      unfold lk
      rw [if_neg ?_]
      · exact ha
      · rw [← e5, ← a2]
        exact fun q => by first | exact h8 q.1 | exact h29 q.2

/-- how much TIME went by, and by how much START grew, from the first to the last of the latest four -/
def tgF (ht : Int → Int) (an : An) : Int := if an.length < 2 then 1 else ht (an.getD (an.length - 1) (0, 0)).1 - ht (an.getD (an.length - 4) (0, 0)).1
def sgF (S : Sc) (an : An) : Int := if an.length < 2 then 1 else S 2 (an.getD (an.length - 1) (0, 0)).2 - S 2 (an.getD (an.length - 4) (0, 0)).2
theorem an_get {an : An} {i : Nat} (h : i < an.length) : an[i]? = some (an.getD i (0, 0)) := by
  rw [List.getD_eq_getElem?_getD, List.getElem?_eq_getElem h]
  rfl
theorem sg_pos {S : Sc} (hS : okSc S) {k : Int} {an : An} (h : okAn S k an) : 1 ≤ sgF S an ∧ sgF S an ≤ 1000000 := by
  unfold sgF
  split
  · omega
  next hl =>
    have h1 := an_get (an := an) (i := an.length - 1) (by omega)
    have h2 := an_get (an := an) (i := an.length - 4) (by omega)
    have h3 := h.2 _ _ _ _ (by omega) h2 h1
    have h4 := h.1 _ _ h1
    have h5 := h.1 _ _ h2
    have h6 := hS.2.2.2.2.2.1 _ _ (by omega) h3.1 h4.2.2.2
    have h7 := (hS.2.2.2.2.1 _ (show 0 ≤ (an.getD (an.length - 1) (0, 0)).2 by omega) h4.2.2.2).2
    have h8 := (hS.2.2.2.2.1 _ (show 0 ≤ (an.getD (an.length - 4) (0, 0)).2 by omega) h5.2.2.2).2
    omega
/-- TIMES, as they are heard -/
def okH9 (ht : Int → Int) (cnt : Int) : Prop := (∀ i, 0 ≤ i → i < cnt → 0 ≤ ht i ∧ ht i ≤ 10000000) ∧ ∀ i j, 0 ≤ i → i ≤ j → j < cnt → ht i ≤ ht j
theorem tg_in {S : Sc} {ht : Int → Int} {k : Int} {an : An} (hh : okH9 ht k) (h : okAn S k an) : 0 ≤ tgF ht an ∧ tgF ht an ≤ 10000000 := by
  unfold tgF
  split
  · omega
  next hl =>
    have h1 := an_get (an := an) (i := an.length - 1) (by omega)
    have h2 := an_get (an := an) (i := an.length - 4) (by omega)
    have h3 := h.2 _ _ _ _ (by omega) h2 h1
    have h4 := h.1 _ _ h1
    have h5 := h.1 _ _ h2
    have h6 := hh.2 _ _ h5.1 h3.2 h4.2.1
    have h7 := hh.1 _ h4.1 h4.2.1
    have h8 := hh.1 _ h5.1 h5.2.1
    omega

set_option maxRecDepth 20000 in
set_option maxHeartbeats 2000000 in
theorem xc_fol (d : Nat) (M : ra_M) (h : 0 ≤ M 18 4 ∧ M 18 4 ≤ 60) : Ex (d + 1) m_X0_firstOfLatest [vR 18] M (fun r M2 => r = some (vI (max 0 (M 18 4 - 4))) ∧ M2 = M) := by
  refine Ex_call (Nat.le_of_ble_eq_true rfl) (fun K hK => ?_)
  show K 0 [some (vR 18)] [] M
  have hK : ra_Clo _ m_X0_firstOfLatest cX0_firstOfLatest _ K := hK
  refine k_ic hK (q := 1)  dX0_firstOfLatest_0 rfl (by decide) (k_aln hK (q := 2)  dX0_firstOfLatest_1 rfl (z := 18) rfl (k_gI hK (q := 5) (z := M 18 4) 0 dX0_firstOfLatest_2 rfl rf_X0_38 rfl rfl rfl rfl (k_ic hK (q := 6)  dX0_firstOfLatest_5 rfl (by decide) (k_sub hK (q := 7)  dX0_firstOfLatest_6 rfl (z := (M 18 4) - 4) rfl (by omega) ?_))))
  refine k_st2I hK (q := 10) dX0_firstOfLatest_7 rfl rm_X0_52 (Nat.le_of_ble_eq_true rfl) (t_max _ M 0 ((M 18 4) - 4)) ?_
  refine k_ir hK dX0_firstOfLatest_10 rfl ?_
  exact ⟨rfl, rfl⟩

set_option maxRecDepth 20000 in
set_option maxHeartbeats 2000000 in
theorem xc_timeGone (d : Nat) (M : ra_M) (S : Sc) (hs : scC M = S) (hS : okSc S) (an : An) (k : Int) (ha : AnC M an) (ho : okAn S k an) (hk : k ≤ 120) (hh : okH9 (M 9) k) : Ex (d + 2) m_X0_timeGone [vR 18] M (fun r M2 => r = some (vI (tgF (M 9) an)) ∧ M2 = M) := by
  refine Ex_call (Nat.le_of_ble_eq_true rfl) (fun K hK => ?_)
  show K 0 [some (vR 18)] [] M
  have hK : ra_Clo _ m_X0_timeGone cX0_timeGone _ K := hK
  have hl := ha.1
  have hlen := okAn_len hS ho
  obtain ⟨a2, a3, a4, a5, a6⟩ := scC_a hs
  have hs0 := hS.1
  have htg := tg_in hh ho
  refine k_aln hK (q := 1)  dX0_timeGone_0 rfl (z := 18) rfl (k_gI hK (q := 4) (z := M 18 4) 0 dX0_timeGone_1 rfl rf_X0_38 rfl rfl rfl rfl (k_ic hK (q := 5)  dX0_timeGone_4 rfl (by decide) ?_))
  refine k_cge hK (q := 8) (t := 10) dX0_timeGone_5 rfl rfl (fun h5 => ?_) (fun h5 => ?_)
  · have h1 := an_get (an := an) (i := an.length - 1) (by omega)
    have h2 := an_get (an := an) (i := an.length - 4) (by omega)
    have x1 := ha.2 _ _ h1
    have x2 := ha.2 _ _ h2
    have o1 := ho.1 _ _ h1
    have o2 := ho.1 _ _ h2
    rw [show (((an.length - 1 : Nat) : Nat) : Int) = M 18 4 - 1 by omega] at x1 o1
    rw [show (((an.length - 4 : Nat) : Nat) : Int) = max 0 (M 18 4 - 4) by omega] at x2 o2
    have t1 := hh.1 _ o1.1 o1.2.1
    have t2 := hh.1 _ o2.1 o2.2.1
    refine k_aln hK (q := 11)  dX0_timeGone_10 rfl (z := 18) rfl (k_gR hK (q := 14) (r := 7) dX0_timeGone_11 rfl rf_X0_22 rfl rfl (k_gR hK (q := 17) (r := 9) dX0_timeGone_14 rfl rf_X0_42 rfl rfl (k_aln hK (q := 18)  dX0_timeGone_17 rfl (z := 18) rfl (k_gR hK (q := 21) (r := 19) dX0_timeGone_18 rfl rf_X0_9 rfl rfl (k_aln hK (q := 22)  dX0_timeGone_21 rfl (z := 18) rfl ?_)))))
    refine k_gI hK (q := 25) (z := M 18 4) 0 dX0_timeGone_22 rfl rf_X0_38 rfl rfl rfl rfl (k_ic hK (q := 26)  dX0_timeGone_25 rfl (by decide) (k_sub hK (q := 27)  dX0_timeGone_26 rfl (z := (M 18 4) - 1) rfl (by omega) (k_ald hK (q := 28)  dX0_timeGone_27 rfl (y := M 19 ((M 18 4) - 1)) rfl (by omega) rfl ?_)))
    rw [x1.1]
    refine k_ald hK (q := 29)  dX0_timeGone_28 rfl (y := M 9 ((an.getD (an.length - 1) (0, 0)).1)) rfl (by omega) rfl (k_aln hK (q := 30)  dX0_timeGone_29 rfl (z := 18) rfl (k_gR hK (q := 33) (r := 7) dX0_timeGone_30 rfl rf_X0_22 rfl rfl (k_gR hK (q := 36) (r := 9) dX0_timeGone_33 rfl rf_X0_42 rfl rfl (k_aln hK (q := 37)  dX0_timeGone_36 rfl (z := 18) rfl (k_gR hK (q := 40) (r := 19) dX0_timeGone_37 rfl rf_X0_9 rfl rfl ?_)))))
    refine k_aln hK (q := 41)  dX0_timeGone_40 rfl (z := 18) rfl ?_
    refine k_iv0I hK (q := 44) dX0_timeGone_41 rfl rm_X0_45 rfl rfl (Nat.le_of_ble_eq_true rfl) (xc_fol _ M (by omega)) ?_
    refine k_ald hK (q := 45)  dX0_timeGone_44 rfl (y := M 19 (max 0 (M 18 4 - 4))) rfl (by omega) rfl ?_
    rw [x2.1]
    refine k_ald hK (q := 46)  dX0_timeGone_45 rfl (y := M 9 ((an.getD (an.length - 4) (0, 0)).1)) rfl (by omega) rfl (k_sub hK (q := 47)  dX0_timeGone_46 rfl (z := (M 9 ((an.getD (an.length - 1) (0, 0)).1)) - (M 9 ((an.getD (an.length - 4) (0, 0)).1))) rfl (by omega) ?_)
    refine k_ir hK dX0_timeGone_47 rfl ?_
    refine ⟨?_, rfl⟩
    unfold tgF
    first | rw [if_pos (by omega)] | rw [if_neg (by omega)]
  · refine k_ic hK (q := 9)  dX0_timeGone_8 rfl (by decide) ?_
    refine k_ir hK dX0_timeGone_9 rfl ?_
    refine ⟨?_, rfl⟩
    unfold tgF
    first | rw [if_pos (by omega)] | rw [if_neg (by omega)]

set_option maxRecDepth 20000 in
set_option maxHeartbeats 2000000 in
theorem xc_startGrown (d : Nat) (M : ra_M) (S : Sc) (hs : scC M = S) (hS : okSc S) (an : An) (k : Int) (ha : AnC M an) (ho : okAn S k an) (hk : k ≤ 120) : Ex (d + 2) m_X0_startGrown [vR 18] M (fun r M2 => r = some (vI (sgF S an)) ∧ M2 = M) := by
  refine Ex_call (Nat.le_of_ble_eq_true rfl) (fun K hK => ?_)
  show K 0 [some (vR 18)] [] M
  have hK : ra_Clo _ m_X0_startGrown cX0_startGrown _ K := hK
  have hl := ha.1
  have hlen := okAn_len hS ho
  obtain ⟨a2, a3, a4, a5, a6⟩ := scC_a hs
  have hs0 := hS.1
  have hsg := sg_pos hS ho
  refine k_aln hK (q := 1)  dX0_startGrown_0 rfl (z := 18) rfl (k_gI hK (q := 4) (z := M 18 4) 0 dX0_startGrown_1 rfl rf_X0_38 rfl rfl rfl rfl (k_ic hK (q := 5)  dX0_startGrown_4 rfl (by decide) ?_))
  refine k_cge hK (q := 8) (t := 10) dX0_startGrown_5 rfl rfl (fun h5 => ?_) (fun h5 => ?_)
  · have h1 := an_get (an := an) (i := an.length - 1) (by omega)
    have h2 := an_get (an := an) (i := an.length - 4) (by omega)
    have x1 := ha.2 _ _ h1
    have x2 := ha.2 _ _ h2
    have o1 := ho.1 _ _ h1
    have o2 := ho.1 _ _ h2
    rw [show (((an.length - 1 : Nat) : Nat) : Int) = M 18 4 - 1 by omega] at x1 o1
    rw [show (((an.length - 4 : Nat) : Nat) : Int) = max 0 (M 18 4 - 4) by omega] at x2 o2
    have t1 := (hS.2.2.2.2.1 _ (show 0 ≤ (an.getD (an.length - 1) (0, 0)).2 by omega) o1.2.2.2).2
    have t2 := (hS.2.2.2.2.1 _ (show 0 ≤ (an.getD (an.length - 4) (0, 0)).2 by omega) o2.2.2.2).2
    rw [← a3] at t1 t2
    refine k_ic hK (q := 11)  dX0_startGrown_10 rfl (by decide) (k_aln hK (q := 12)  dX0_startGrown_11 rfl (z := 18) rfl (k_gR hK (q := 15) (r := 1) dX0_startGrown_12 rfl rf_X0_18 rfl rfl (k_gR hK (q := 18) (r := 3) dX0_startGrown_15 rfl rf_X0_49 rfl rfl (k_aln hK (q := 19)  dX0_startGrown_18 rfl (z := 18) rfl (k_gR hK (q := 22) (r := 20) dX0_startGrown_19 rfl rf_X0_15 rfl rfl ?_)))))
    refine k_aln hK (q := 23)  dX0_startGrown_22 rfl (z := 18) rfl (k_gI hK (q := 26) (z := M 18 4) 0 dX0_startGrown_23 rfl rf_X0_38 rfl rfl rfl rfl (k_ic hK (q := 27)  dX0_startGrown_26 rfl (by decide) (k_sub hK (q := 28)  dX0_startGrown_27 rfl (z := (M 18 4) - 1) rfl (by omega) (k_ald hK (q := 29)  dX0_startGrown_28 rfl (y := M 20 ((M 18 4) - 1)) rfl (by omega) rfl ?_))))
    rw [x1.2]
    refine k_ald hK (q := 30)  dX0_startGrown_29 rfl (y := M 3 ((an.getD (an.length - 1) (0, 0)).2)) rfl (by omega) rfl (k_aln hK (q := 31)  dX0_startGrown_30 rfl (z := 18) rfl (k_gR hK (q := 34) (r := 1) dX0_startGrown_31 rfl rf_X0_18 rfl rfl (k_gR hK (q := 37) (r := 3) dX0_startGrown_34 rfl rf_X0_49 rfl rfl (k_aln hK (q := 38)  dX0_startGrown_37 rfl (z := 18) rfl (k_gR hK (q := 41) (r := 20) dX0_startGrown_38 rfl rf_X0_15 rfl rfl ?_)))))
    refine k_aln hK (q := 42)  dX0_startGrown_41 rfl (z := 18) rfl ?_
    refine k_iv0I hK (q := 45) dX0_startGrown_42 rfl rm_X0_45 rfl rfl (Nat.le_of_ble_eq_true rfl) (xc_fol _ M (by omega)) ?_
    refine k_ald hK (q := 46)  dX0_startGrown_45 rfl (y := M 20 (max 0 (M 18 4 - 4))) rfl (by omega) rfl ?_
    rw [x2.2]
    refine k_ald hK (q := 47)  dX0_startGrown_46 rfl (y := M 3 ((an.getD (an.length - 4) (0, 0)).2)) rfl (by omega) rfl (k_sub hK (q := 48)  dX0_startGrown_47 rfl (z := (M 3 ((an.getD (an.length - 1) (0, 0)).2)) - (M 3 ((an.getD (an.length - 4) (0, 0)).2))) rfl (by omega) ?_)
    refine k_st2I hK (q := 51) dX0_startGrown_48 rfl rm_X0_52 (Nat.le_of_ble_eq_true rfl) (t_max _ M 1 ((M 3 ((an.getD (an.length - 1) (0, 0)).2)) - (M 3 ((an.getD (an.length - 4) (0, 0)).2)))) ?_
    refine k_ir hK dX0_startGrown_51 rfl ?_
    refine ⟨?_, rfl⟩
    unfold sgF at hsg ⊢
    first | rw [if_pos (by omega)] | (rw [if_neg (by omega)] at hsg ⊢; rw [← a3] at hsg ⊢; rw [Int.max_eq_right (by omega)])
  · refine k_ic hK (q := 9)  dX0_startGrown_8 rfl (by decide) ?_
    refine k_ir hK dX0_startGrown_9 rfl ?_
    refine ⟨?_, rfl⟩
    unfold sgF at hsg ⊢
    first | rw [if_pos (by omega)] | (rw [if_neg (by omega)] at hsg ⊢; rw [← a3] at hsg ⊢; rw [Int.max_eq_right (by omega)])

def exF (S : Sc) (ht : Int → Int) (an : An) (n : Int) : Int := ht (an.getD (an.length - 1) (0, 0)).1 + ((S 2 n - S 2 (an.getD (an.length - 1) (0, 0)).2) * tgF ht an) / sgF S an

theorem mul_in {z t : Int} (hz : -1000000 ≤ z ∧ z ≤ 1000000) (ht : 0 ≤ t ∧ t ≤ 10000000) : -10000000000000 ≤ z * t ∧ z * t ≤ 10000000000000 := by
  have h1 : z * t ≤ 1000000 * t := Int.mul_le_mul_of_nonneg_right hz.2 ht.1
  have h2 : -1000000 * t ≤ z * t := Int.mul_le_mul_of_nonneg_right hz.1 ht.1
  omega
theorem div_in {a b : Int} (hb : 1 ≤ b) (ha : -10000000000000 ≤ a ∧ a ≤ 10000000000000) : -10000000000000 ≤ a / b ∧ a / b ≤ 10000000000000 := by
  constructor
  · rw [Int.le_ediv_iff_mul_le (by omega)]
    have h1 : -10000000000000 * b ≤ -10000000000000 * 1 := Int.mul_le_mul_of_nonpos_left (by omega) hb
    omega
  · have h1 : a / b < 10000000000000 + 1 := by
      rw [Int.ediv_lt_iff_lt_mul (by omega)]
      have h2 : (10000000000000 + 1) * 1 ≤ (10000000000000 + 1) * b := Int.mul_le_mul_of_nonneg_left hb (by omega)
      omega
    omega

set_option maxRecDepth 20000 in
set_option maxHeartbeats 2000000 in
theorem xc_expected (d : Nat) (M : ra_M) (n : Int) (S : Sc) (hs : scC M = S) (hS : okSc S) (an : An) (k : Int) (ha : AnC M an) (ho : okAn S k an) (hk : k ≤ 120) (hh : okH9 (M 9) k) (hn : 0 ≤ n ∧ n < S 0 0) (hne : an ≠ []) : Ex (d + 3) m_X0_expected [vR 18, vI n] M (fun r M2 => r = some (vJ (exF S (M 9) an n)) ∧ M2 = M) := by
  refine Ex_call (Nat.le_of_ble_eq_true rfl) (fun K hK => ?_)
  show K 0 [some (vR 18), some (vI n), none, none] [] M
  have hK : ra_Clo _ m_X0_expected cX0_expected _ K := hK
  have hl := ha.1
  have hlen := okAn_len hS ho
  obtain ⟨a2, a3, a4, a5, a6⟩ := scC_a hs
  have hs0 := hS.1
  have htg := tg_in hh ho
  have hsg := sg_pos hS ho
  have hlp : 0 < an.length := List.length_pos_iff.mpr hne
  have h1 := an_get (an := an) (i := an.length - 1) (by omega)
  have x1 := ha.2 _ _ h1
  have o1 := ho.1 _ _ h1
  rw [show (((an.length - 1 : Nat) : Nat) : Int) = M 18 4 - 1 by omega] at x1 o1
  have t1 := hh.1 _ o1.1 o1.2.1
  have t2 := (hS.2.2.2.2.1 _ (show 0 ≤ (an.getD (an.length - 1) (0, 0)).2 by omega) o1.2.2.2).2
  have t3 := (hS.2.2.2.2.1 n hn.1 hn.2).2
  rw [← a3] at t2 t3
  have hmul : -10000000000000 ≤ (M 3 n - M 3 (an.getD (an.length - 1) (0, 0)).2) * tgF (M 9) an ∧ (M 3 n - M 3 (an.getD (an.length - 1) (0, 0)).2) * tgF (M 9) an ≤ 10000000000000 := by
    exact mul_in (by omega) (by omega)
  have hdiv := div_in (a := (M 3 n - M 3 (an.getD (an.length - 1) (0, 0)).2) * tgF (M 9) an) (b := sgF S an) (by omega) hmul
  refine k_aln hK (q := 1)  dX0_expected_0 rfl (z := 18) rfl (k_gI hK (q := 4) (z := M 18 4) 0 dX0_expected_1 rfl rf_X0_38 rfl rfl rfl rfl ?_)
  refine k_ifne hK (q := 7) (t := 11) dX0_expected_4 rfl rfl (fun h4 => ?_) (fun h4 => ?_)
  · refine k_aln hK (q := 12)  dX0_expected_11 rfl (z := 18) rfl (k_gR hK (q := 15) (r := 1) dX0_expected_12 rfl rf_X0_18 rfl rfl (k_gR hK (q := 18) (r := 3) dX0_expected_15 rfl rf_X0_49 rfl rfl (k_iln hK (q := 19)  dX0_expected_18 rfl (z := n) rfl (k_ald hK (q := 20)  dX0_expected_19 rfl (y := M 3 n) rfl (by omega) rfl (k_aln hK (q := 21)  dX0_expected_20 rfl (z := 18) rfl ?_)))))
    refine k_gR hK (q := 24) (r := 1) dX0_expected_21 rfl rf_X0_18 rfl rfl (k_gR hK (q := 27) (r := 3) dX0_expected_24 rfl rf_X0_49 rfl rfl (k_aln hK (q := 28)  dX0_expected_27 rfl (z := 18) rfl (k_gR hK (q := 31) (r := 20) dX0_expected_28 rfl rf_X0_15 rfl rfl (k_aln hK (q := 32)  dX0_expected_31 rfl (z := 18) rfl (k_gI hK (q := 35) (z := M 18 4) 0 dX0_expected_32 rfl rf_X0_38 rfl rfl rfl rfl ?_)))))
    refine k_ic hK (q := 36)  dX0_expected_35 rfl (by decide) (k_sub hK (q := 37)  dX0_expected_36 rfl (z := (M 18 4) - 1) rfl (by omega) (k_ald hK (q := 38)  dX0_expected_37 rfl (y := M 20 ((M 18 4) - 1)) rfl (by omega) rfl ?_))
    rw [x1.2]
    refine k_ald hK (q := 39)  dX0_expected_38 rfl (y := M 3 ((an.getD (an.length - 1) (0, 0)).2)) rfl (by omega) rfl (k_sub hK (q := 40)  dX0_expected_39 rfl (z := (M 3 n) - (M 3 ((an.getD (an.length - 1) (0, 0)).2))) rfl (by omega) (k_i2l hK (q := 41)  dX0_expected_40 rfl (k_lsn hK (q := 42)  dX0_expected_41 rfl (L2 := [some (vR 18), some (vI n), some (vJ ((M 3 n) - (M 3 ((an.getD (an.length - 1) (0, 0)).2)))), none]) (Nat.le_of_ble_eq_true rfl) rfl (k_aln hK (q := 43)  dX0_expected_42 rfl (z := 18) rfl (k_gR hK (q := 46) (r := 7) dX0_expected_43 rfl rf_X0_22 rfl rfl ?_)))))
    refine k_gR hK (q := 49) (r := 9) dX0_expected_46 rfl rf_X0_42 rfl rfl (k_aln hK (q := 50)  dX0_expected_49 rfl (z := 18) rfl (k_gR hK (q := 53) (r := 19) dX0_expected_50 rfl rf_X0_9 rfl rfl (k_aln hK (q := 54)  dX0_expected_53 rfl (z := 18) rfl (k_gI hK (q := 57) (z := M 18 4) 0 dX0_expected_54 rfl rf_X0_38 rfl rfl rfl rfl (k_ic hK (q := 58)  dX0_expected_57 rfl (by decide) ?_)))))
    refine k_sub hK (q := 59)  dX0_expected_58 rfl (z := (M 18 4) - 1) rfl (by omega) (k_ald hK (q := 60)  dX0_expected_59 rfl (y := M 19 ((M 18 4) - 1)) rfl (by omega) rfl ?_)
    rw [x1.1]
    refine k_ald hK (q := 61)  dX0_expected_60 rfl (y := M 9 ((an.getD (an.length - 1) (0, 0)).1)) rfl (by omega) rfl (k_i2l hK (q := 62)  dX0_expected_61 rfl (k_lln hK (q := 63)  dX0_expected_62 rfl (z := ((M 3 n) - (M 3 ((an.getD (an.length - 1) (0, 0)).2)))) rfl (k_aln hK (q := 64)  dX0_expected_63 rfl (z := 18) rfl ?_)))
    refine k_iv0I hK (q := 67) dX0_expected_64 rfl rm_X0_60 rfl rfl (Nat.le_of_ble_eq_true rfl) (xc_timeGone _ M S hs hS an k ha ho hk hh) ?_
    refine k_i2l hK (q := 68)  dX0_expected_67 rfl (k_lmul hK (q := 69)  dX0_expected_68 rfl (z := ((M 3 n) - (M 3 ((an.getD (an.length - 1) (0, 0)).2))) * (tgF (M 9) an)) rfl (by omega) (k_aln hK (q := 70)  dX0_expected_69 rfl (z := 18) rfl ?_))
    refine k_iv0I hK (q := 73) dX0_expected_70 rfl rm_X0_63 rfl rfl (Nat.le_of_ble_eq_true rfl) (xc_startGrown _ M S hs hS an k ha ho hk) ?_
    refine k_i2l hK (q := 74)  dX0_expected_73 rfl ?_
    refine k_st2J hK (q := 77) dX0_expected_74 rfl rm_X0_66 (Nat.le_of_ble_eq_true rfl) (xj_floorDiv _ M (((M 3 n) - (M 3 ((an.getD (an.length - 1) (0, 0)).2))) * (tgF (M 9) an)) (sgF S an) (by omega) (by omega)) ?_
    refine k_ladd hK (q := 78)  dX0_expected_77 rfl (z := (M 9 ((an.getD (an.length - 1) (0, 0)).1)) + ((((M 3 n) - (M 3 ((an.getD (an.length - 1) (0, 0)).2))) * (tgF (M 9) an)) / (sgF S an))) rfl (by omega) ?_
    refine k_lr hK dX0_expected_78 rfl ?_
    refine ⟨?_, rfl⟩
    unfold exF
    rw [← a3]
  · exact absurd h4 (by omega)
