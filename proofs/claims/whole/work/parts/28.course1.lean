/-! the COURSE, in the class -/
def pk (s : St4) : Int := s.2.2.2 * 32768 + s.1 * 8192 + (s.2.2.1 + 1) * 64 + (s.2.1 + 1)
def okSt (s : St4) : Prop := (0 ≤ s.1 ∧ s.1 ≤ 3) ∧ (-1 ≤ s.2.1 ∧ s.2.1 < 60) ∧ (-1 ≤ s.2.2.1 ∧ s.2.2.1 < 120) ∧ (0 ≤ s.2.2.2 ∧ s.2.2.2 ≤ 2000)
def cPl (n : Int) (ls : List St4) : Int := ((ls.countP (fun s => decide ((s.1 = 0 ∨ s.1 = 3) ∧ s.2.1 = n)) : Nat) : Int)
def cRt (S : Sc) (hp : Int → Int) (n : Int) (ls : List St4) : Int := ((ls.countP (fun s => decide (((s.1 = 0 ∨ s.1 = 3) ∧ S 1 n = hp s.2.2.1) ∧ s.2.1 = n)) : Nat) : Int)
def cPs (n : Int) (ls : List St4) : Int := ((ls.countP (fun s => decide (s.1 = 2 ∧ s.2.1 = n)) : Nat) : Int)
def mtF (ls : List St4) (ev : Int) : Int := ls.foldl (fun a s => if s.2.2.1 = ev ∧ s.1 ≠ 1 then s.2.1 else a) (-1)
theorem cPl_app (n : Int) (ls : List St4) (s : St4) : cPl n (ls ++ [s]) = cPl n ls + (if (s.1 = 0 ∨ s.1 = 3) ∧ s.2.1 = n then 1 else 0) := by
  unfold cPl
  rw [List.countP_append]
  by_cases h : (s.1 = 0 ∨ s.1 = 3) ∧ s.2.1 = n
  · rw [if_pos h]; simp [List.countP_cons, h]
  · rw [if_neg h]; simp [List.countP_cons, h]
theorem cRt_app (S : Sc) (hp : Int → Int) (n : Int) (ls : List St4) (s : St4) : cRt S hp n (ls ++ [s]) = cRt S hp n ls + (if ((s.1 = 0 ∨ s.1 = 3) ∧ S 1 n = hp s.2.2.1) ∧ s.2.1 = n then 1 else 0) := by
  unfold cRt
  rw [List.countP_append]
  by_cases h : ((s.1 = 0 ∨ s.1 = 3) ∧ S 1 n = hp s.2.2.1) ∧ s.2.1 = n
  · rw [if_pos h]; simp [List.countP_cons, h]
  · rw [if_neg h]; simp [List.countP_cons, h]
theorem cPs_app (n : Int) (ls : List St4) (s : St4) : cPs n (ls ++ [s]) = cPs n ls + (if s.1 = 2 ∧ s.2.1 = n then 1 else 0) := by
  unfold cPs
  rw [List.countP_append]
  by_cases h : s.1 = 2 ∧ s.2.1 = n
  · rw [if_pos h]; simp [List.countP_cons, h]
  · rw [if_neg h]; simp [List.countP_cons, h]
theorem mtF_app (ls : List St4) (s : St4) (ev : Int) : mtF (ls ++ [s]) ev = if s.2.2.1 = ev ∧ s.1 ≠ 1 then s.2.1 else mtF ls ev := by
  unfold mtF
  rw [List.foldl_append]
  rfl
theorem mtF_none : ∀ (ls : List St4) (ev a : Int), (∀ s ∈ ls, s.2.2.1 ≠ ev) → ls.foldl (fun a s => if s.2.2.1 = ev ∧ s.1 ≠ 1 then s.2.1 else a) a = a := by
  intro ls
  induction ls with
  | nil => intro ev a _; rfl
  | cons s ls ih =>
    intro ev a h
    rw [List.foldl_cons, if_neg (fun q => h s List.mem_cons_self q.1)]
    exact ih ev a (fun t ht => h t (List.mem_cons_of_mem _ ht))
def CO (M : ra_M) (ls : List St4) : Prop := M 22 11 = (ls.length : Nat) ∧ ∀ (i : Nat) (s : St4), ls[i]? = some s → M 24 (i : Nat) = pk s
def CA (S : Sc) (hp : Int → Int) (M : ra_M) (ls : List St4) : Prop := ∀ n, 0 ≤ n → n < 60 → M 26 n = cPl n ls ∧ M 27 n = cRt S hp n ls ∧ M 28 n = cPs n ls
def CM (M : ra_M) (ls : List St4) (e : Int) : Prop := ∀ ev, 0 ≤ ev → ev < e → M 25 ev = mtF ls ev
/-- the COURSE so far, EVENTS ahead of e taken -/
def WS (S : Sc) (hp : Int → Int) (M : ra_M) (ls : List St4) (e : Int) : Prop := CO M ls ∧ CA S hp M ls ∧ CM M ls e ∧ ∀ s ∈ ls, okSt s ∧ s.2.2.1 < e
def frW (M M2 : ra_M) : Prop := frX [22, 24, 25, 26, 27, 28] M M2 ∧ ∀ j, j ≠ 11 → M2 22 j = M 22 j
theorem frW_trans {M M1 M2 : ra_M} (h : frW M M1) (h2 : frW M1 M2) : frW M M2 := ⟨frX_trans h.1 h2.1, fun j hj => (h2.2 j hj).trans (h.2 j hj)⟩
theorem CO_app {M M2 : ra_M} {ls : List St4} {s : St4} (h : CO M ls) (h1 : M2 22 11 = M 22 11 + 1) (h2 : M2 24 = (up M 24 (M 22 11) (pk s)) 24) : CO M2 (ls ++ [s]) := by
  refine ⟨by rw [h1, h.1]; simp, fun i t hi => ?_⟩
  rw [h2]
  by_cases hl : i < ls.length
  · rw [List.getElem?_append_left hl] at hi
    have := h.1
    rw [up_j _ _ (by omega)]
    exact h.2 i t hi
  · have hil := (List.getElem?_eq_some_iff.mp hi).1
    simp at hil
    have hi2 : i = ls.length := by omega
    subst hi2
    simp at hi
    subst hi
    rw [h.1, up_same]
theorem or_int {x y : Int} (i : Nat) (hx : 0 ≤ x) (hy : 0 ≤ y ∧ y < (2 ^ i : Nat)) (hd : ∃ k : Int, x = (2 ^ i : Nat) * k) : x + y = ((x.toNat ||| y.toNat : Nat) : Int) := by
  obtain ⟨k, hk⟩ := hd
  have hp : 0 < 2 ^ i := Nat.two_pow_pos i
  have hk0 : 0 ≤ k := by
    by_cases h : 0 ≤ k
    · exact h
    · exfalso
      have h1 : k ≤ -1 := by omega
      have h2 : ((2 ^ i : Nat) : Int) * k ≤ ((2 ^ i : Nat) : Int) * (-1) := Int.mul_le_mul_of_nonneg_left h1 (by omega)
      omega
  obtain ⟨m, rfl⟩ : ∃ m : Nat, k = m := ⟨k.toNat, by omega⟩
  obtain ⟨n, rfl⟩ : ∃ n : Nat, y = n := ⟨y.toNat, by omega⟩
  have e1 : x = ((2 ^ i * m : Nat) : Int) := by rw [hk]; exact (Int.natCast_mul _ _).symm
  rw [e1]
  simp only [Int.toNat_natCast]
  rw [← Nat.two_pow_add_eq_or_of_lt (by omega) m]
  exact (Int.natCast_add _ _).symm
theorem and_int {x : Int} (i : Nat) (hx : 0 ≤ x) : x % ((2 ^ i : Nat) : Int) = ((x.toNat &&& (2 ^ i - 1) : Nat) : Int) := by
  obtain ⟨m, rfl⟩ : ∃ m : Nat, x = m := ⟨x.toNat, by omega⟩
  rw [Int.toNat_natCast, Nat.and_two_pow_sub_one_eq_mod]
  rfl

set_option maxRecDepth 20000 in
set_option maxHeartbeats 2000000 in
theorem xc_keepStep (d : Nat) (M : ra_M) (k p ev c : Int) (h : okSt (k, p, ev, c)) (hc : 0 ≤ M 22 11 ∧ M 22 11 < 7320) : Ex d m_X1_keepStep [vR 22, vI k, vI p, vI ev, vI c] M (fun r M2 => r = some (vI 1) ∧ M2 = up (up M 24 (M 22 11) (pk (k, p, ev, c))) 22 11 (M 22 11 + 1)) := by
  refine Ex_leaf (Nat.le_of_ble_eq_true rfl) (fun C K hK => ?_)
  show K 0 [some (vR 22), some (vI k), some (vI p), some (vI ev), some (vI c)] [] M
  have hK : ra_Clo _ m_X1_keepStep cX1_keepStep _ K := hK
  obtain ⟨b1, b2, b3, b4⟩ := h
  simp only at b1 b2 b3 b4
  refine k_aln hK (q := 1)  dX1_keepStep_0 rfl (z := 22) rfl (k_gI hK (q := 4) (z := M 22 11) 0 dX1_keepStep_1 rfl rf_X1_141 rfl rfl rfl rfl (k_sp hK (q := 7)  dX1_keepStep_4 rfl (by decide) ?_))
  refine k_clt hK (q := 10) (t := 12) dX1_keepStep_7 rfl rfl (fun h7 => ?_) (fun h7 => ?_)
  · refine k_aln hK (q := 13)  dX1_keepStep_12 rfl (z := 22) rfl (k_gR hK (q := 16) (r := 24) dX1_keepStep_13 rfl rf_X1_15 rfl rfl (k_aln hK (q := 17)  dX1_keepStep_16 rfl (z := 22) rfl (k_gI hK (q := 20) (z := M 22 11) 0 dX1_keepStep_17 rfl rf_X1_141 rfl rfl rfl rfl (k_il hK (q := 22)  dX1_keepStep_20 rfl (z := c) rfl (k_bp hK (q := 24)  dX1_keepStep_22 rfl (by decide) ?_)))))
    refine k_shl hK (q := 25)  dX1_keepStep_24 rfl (z := c * 32768) (m := c.toNat) (n := 15) (by omega) rfl (by decide) (by omega) (by omega) (k_iln hK (q := 26)  dX1_keepStep_25 rfl (z := k) rfl (k_bp hK (q := 28)  dX1_keepStep_26 rfl (by decide) (k_shl hK (q := 29)  dX1_keepStep_28 rfl (z := k * 8192) (m := k.toNat) (n := 13) (by omega) rfl (by decide) (by omega) (by omega) (k_or hK (q := 30)  dX1_keepStep_29 rfl (z := c * 32768 + k * 8192) (m := (c * 32768).toNat) (n := (k * 8192).toNat) (by omega) (by omega) (or_int 15 (by omega) (by omega) ⟨c, by omega⟩) (k_iln hK (q := 31)  dX1_keepStep_30 rfl (z := ev) rfl ?_)))))
    refine k_ic hK (q := 32)  dX1_keepStep_31 rfl (by decide) (k_add hK (q := 33)  dX1_keepStep_32 rfl (z := ev + 1) rfl (by omega) (k_bp hK (q := 35)  dX1_keepStep_33 rfl (by decide) (k_shl hK (q := 36)  dX1_keepStep_35 rfl (z := (ev + 1) * 64) (m := (ev + 1).toNat) (n := 6) (by omega) rfl (by decide) (by omega) (by omega) (k_or hK (q := 37)  dX1_keepStep_36 rfl (z := c * 32768 + k * 8192 + (ev + 1) * 64) (m := (c * 32768 + k * 8192).toNat) (n := ((ev + 1) * 64).toNat) (by omega) (by omega) (or_int 13 (by omega) (by omega) ⟨c * 4 + k, by omega⟩) (k_iln hK (q := 38)  dX1_keepStep_37 rfl (z := p) rfl ?_)))))
    refine k_ic hK (q := 39)  dX1_keepStep_38 rfl (by decide) (k_add hK (q := 40)  dX1_keepStep_39 rfl (z := p + 1) rfl (by omega) (k_or hK (q := 41)  dX1_keepStep_40 rfl (z := c * 32768 + k * 8192 + (ev + 1) * 64 + (p + 1)) (m := (c * 32768 + k * 8192 + (ev + 1) * 64).toNat) (n := (p + 1).toNat) (by omega) (by omega) (or_int 6 (by omega) (by omega) ⟨c * 512 + k * 128 + (ev + 1), by omega⟩) (k_ast hK (q := 42)  dX1_keepStep_41 rfl rfl (by omega) (k_aln hK (q := 43)  dX1_keepStep_42 rfl (z := 22) rfl (k_dup hK (q := 44)  dX1_keepStep_43 rfl rfl ?_)))))
    refine k_gI hK (q := 47) (z := M 22 11) 0 dX1_keepStep_44 rfl rf_X1_141 rfl rfl rfl rfl (k_ic hK (q := 48)  dX1_keepStep_47 rfl (by decide) (k_add hK (q := 49)  dX1_keepStep_48 rfl (z := (M 22 11) + 1) rfl (by omega) (k_pI hK (q := 52) (M2 := up (up M 24 (M 22 11) (c * 32768 + k * 8192 + (ev + 1) * 64 + (p + 1))) 22 11 ((M 22 11) + 1)) dX1_keepStep_49 rfl rp_X1_141 rfl rfl rfl (k_ic hK (q := 53)  dX1_keepStep_52 rfl (by decide) ?_))))
    refine k_irz hK dX1_keepStep_53 rfl (by decide) ?_
    exact ⟨rfl, rfl⟩
  · exact absurd h7 (by omega)

set_option maxRecDepth 20000 in
set_option maxHeartbeats 2000000 in
theorem xc_tell (d : Nat) (M : ra_M) (i wh k0 p ev c : Int) (h : okSt (k0, p, ev, c)) (hi : 0 ≤ i ∧ i < 7320) (hm : M 24 i = pk (k0, p, ev, c)) : Ex d m_X1_tell [vR 22, vI i, vI wh] M (fun r M2 => r = some (vI (if wh = 0 then k0 else if wh = 1 then p else if wh = 2 then ev else c)) ∧ M2 = M) := by
  refine Ex_leaf (Nat.le_of_ble_eq_true rfl) (fun C K hK => ?_)
  show K 0 [some (vR 22), some (vI i), some (vI wh), none] [] M
  have hK : ra_Clo _ m_X1_tell cX1_tell _ K := hK
  obtain ⟨b1, b2, b3, b4⟩ := h
  simp only at b1 b2 b3 b4
  refine k_aln hK (q := 1)  dX1_tell_0 rfl (z := 22) rfl (k_gR hK (q := 4) (r := 24) dX1_tell_1 rfl rf_X1_15 rfl rfl (k_iln hK (q := 5)  dX1_tell_4 rfl (z := i) rfl (k_ald hK (q := 6)  dX1_tell_5 rfl (y := M 24 i) rfl (by omega) rfl ?_)))
  rw [hm]
  refine k_isn hK (q := 7)  dX1_tell_6 rfl (L2 := [some (vR 22), some (vI i), some (vI wh), some (vI (pk (k0, p, ev, c)))]) (Nat.le_of_ble_eq_true rfl) rfl (k_iln hK (q := 8)  dX1_tell_7 rfl (z := wh) rfl ?_)
  refine k_ts hK dX1_tell_8 (fun h8 => ⟨60, rfl, ?_⟩) (fun h8 => ?_)
  · refine k_iln hK (q := 61)  dX1_tell_60 rfl (z := (pk (k0, p, ev, c))) rfl (k_bp hK (q := 63)  dX1_tell_61 rfl (by decide) (k_shr hK (q := 64)  dX1_tell_63 rfl (z := c) (m := (pk (k0, p, ev, c)).toNat) (n := 15) (by unfold pk; simp only; omega) rfl (by decide) (by unfold pk; simp only; omega) ?_))
    refine k_ir hK dX1_tell_64 rfl ?_
    refine ⟨?_, rfl⟩
    congr 2
    repeat' split
    all_goals omega
  · have h82 : wh = 0 ∨ wh = 1 ∨ wh = 2 := by omega
    rcases h82 with h82 | h82 | h82
    · refine ⟨28, 36, by rw [h82]; rfl, rfl, ?_⟩
      refine k_iln hK (q := 37)  dX1_tell_36 rfl (z := (pk (k0, p, ev, c))) rfl (k_bp hK (q := 39)  dX1_tell_37 rfl (by decide) (k_shr hK (q := 40)  dX1_tell_39 rfl (z := c * 4 + k0) (m := (pk (k0, p, ev, c)).toNat) (n := 13) (by unfold pk; simp only; omega) rfl (by decide) (by unfold pk; simp only; omega) (k_ic hK (q := 41)  dX1_tell_40 rfl (by decide) (k_and hK (q := 42)  dX1_tell_41 rfl (z := k0) (m := (c * 4 + k0).toNat) (n := 3) (by omega) rfl (by rw [← and_int 2 (by omega)]; omega) ?_))))
      refine k_ir hK dX1_tell_42 rfl ?_
      refine ⟨?_, rfl⟩
      congr 2
      repeat' split
      all_goals omega
    · refine ⟨35, 43, by rw [h82]; rfl, rfl, ?_⟩
      refine k_iln hK (q := 44)  dX1_tell_43 rfl (z := (pk (k0, p, ev, c))) rfl (k_bp hK (q := 46)  dX1_tell_44 rfl (by decide) (k_and hK (q := 47)  dX1_tell_46 rfl (z := p + 1) (m := (pk (k0, p, ev, c)).toNat) (n := 63) (by unfold pk; simp only; omega) rfl (by rw [← and_int 6 (by unfold pk; simp only; omega)]; unfold pk; simp only; omega) (k_ic hK (q := 48)  dX1_tell_47 rfl (by decide) (k_sub hK (q := 49)  dX1_tell_48 rfl (z := (p + 1) - 1) rfl (by omega) ?_))))
      refine k_ir hK dX1_tell_49 rfl ?_
      refine ⟨?_, rfl⟩
      congr 2
      repeat' split
      all_goals omega
    · refine ⟨42, 50, by rw [h82]; rfl, rfl, ?_⟩
      refine k_iln hK (q := 51)  dX1_tell_50 rfl (z := (pk (k0, p, ev, c))) rfl (k_bp hK (q := 53)  dX1_tell_51 rfl (by decide) (k_shr hK (q := 54)  dX1_tell_53 rfl (z := c * 512 + k0 * 128 + (ev + 1)) (m := (pk (k0, p, ev, c)).toNat) (n := 6) (by unfold pk; simp only; omega) rfl (by decide) (by unfold pk; simp only; omega) (k_bp hK (q := 56)  dX1_tell_54 rfl (by decide) (k_and hK (q := 57)  dX1_tell_56 rfl (z := ev + 1) (m := (c * 512 + k0 * 128 + (ev + 1)).toNat) (n := 127) (by omega) rfl (by rw [← and_int 7 (by omega)]; omega) (k_ic hK (q := 58)  dX1_tell_57 rfl (by decide) ?_)))))
      refine k_sub hK (q := 59)  dX1_tell_58 rfl (z := (ev + 1) - 1) rfl (by omega) ?_
      refine k_ir hK dX1_tell_59 rfl ?_
      refine ⟨?_, rfl⟩
      congr 2
      repeat' split
      all_goals omega

set_option maxRecDepth 20000 in
set_option maxHeartbeats 2000000 in
theorem forgetC_loop {C : Nat → List ra_V → ra_M → (Option ra_V → ra_M → Prop) → Prop} {Q : Option ra_V → ra_M → Prop} {K : Nat → ra_L → List ra_V → ra_M → Prop} (hK : ra_Clo C m_X1_forgetCourse cX1_forgetCourse Q K) {M0 : ra_M}
    (hQ : ∀ M : ra_M, (∀ n, 0 ≤ n → n < 60 → M 26 n = 0 ∧ M 27 n = 0 ∧ M 28 n = 0) → M 22 11 = 0 → frW M0 M → Q none M) :
    ∀ (n i : Nat) (M : ra_M), i + n = 60 → (∀ t : Nat, t < i → M 26 (t : Nat) = 0 ∧ M 27 (t : Nat) = 0 ∧ M 28 (t : Nat) = 0) → M 22 11 = 0 → frW M0 M → K 7 [some (vR 22), some (vI (i : Nat))] [] M := by
  intro n
  induction n with
  | zero =>
    intro i M hi hc h11 hf
    refine k_iln hK (q := 8)  dX1_forgetCourse_7 rfl (z := (i : Nat)) rfl (k_bp hK (q := 10)  dX1_forgetCourse_8 rfl (by decide) ?_)
    refine k_cge hK (q := 13) (t := 40) dX1_forgetCourse_10 rfl rfl (fun h10 => ?_) (fun h10 => ?_)
    · refine k_vr hK dX1_forgetCourse_40 rfl ?_
      exact hQ M (fun n a b => by have := hc n.toNat (by omega); rw [show ((n.toNat : Nat) : Int) = n by omega] at this; exact this) h11 hf
    · exact absurd h10 (by omega)
  | succ n ih =>
    intro i M hi hc h11 hf
    refine k_iln hK (q := 8)  dX1_forgetCourse_7 rfl (z := (i : Nat)) rfl (k_bp hK (q := 10)  dX1_forgetCourse_8 rfl (by decide) ?_)
    refine k_cge hK (q := 13) (t := 40) dX1_forgetCourse_10 rfl rfl (fun h10 => ?_) (fun h10 => ?_)
    · exact absurd h10 (by omega)
    · refine k_aln hK (q := 14)  dX1_forgetCourse_13 rfl (z := 22) rfl (k_gR hK (q := 17) (r := 26) dX1_forgetCourse_14 rfl rf_X1_21 rfl rfl (k_iln hK (q := 18)  dX1_forgetCourse_17 rfl (z := (i : Nat)) rfl (k_ic hK (q := 19)  dX1_forgetCourse_18 rfl (by decide) (k_ast hK (q := 20)  dX1_forgetCourse_19 rfl rfl (by omega) (k_aln hK (q := 21)  dX1_forgetCourse_20 rfl (z := 22) rfl ?_)))))
      refine k_gR hK (q := 24) (r := 27) dX1_forgetCourse_21 rfl rf_X1_24 rfl rfl (k_iln hK (q := 25)  dX1_forgetCourse_24 rfl (z := (i : Nat)) rfl (k_ic hK (q := 26)  dX1_forgetCourse_25 rfl (by decide) (k_ast hK (q := 27)  dX1_forgetCourse_26 rfl rfl (by omega) (k_aln hK (q := 28)  dX1_forgetCourse_27 rfl (z := 22) rfl (k_gR hK (q := 31) (r := 28) dX1_forgetCourse_28 rfl rf_X1_27 rfl rfl ?_)))))
      refine k_iln hK (q := 32)  dX1_forgetCourse_31 rfl (z := (i : Nat)) rfl (k_ic hK (q := 33)  dX1_forgetCourse_32 rfl (by decide) (k_ast hK (q := 34)  dX1_forgetCourse_33 rfl rfl (by omega) (k_inc hK (q := 37)  dX1_forgetCourse_34 rfl (y := (i : Nat) + 1) (L2 := [some (vR 22), some (vI ((i : Nat) + 1))]) rfl rfl (by omega) rfl (k_goto hK (t := 7) dX1_forgetCourse_37 rfl ?_))))
      refine ih (i + 1) _ (by omega) (fun t ht => ?_) (by simp [up]; exact h11) ⟨frX_up (frX_up (frX_up (hf.1) _ _ (by decide)) _ _ (by decide)) _ _ (by decide), fun j hj => by simp [up]; exact hf.2 j hj⟩
      by_cases h : t = i
      · subst h
        simp [up]
      · have := hc t (by omega)
        have hne : ((t : Nat) : Int) ≠ (i : Nat) := by omega
        simp [up, hne, this]

set_option maxRecDepth 20000 in
set_option maxHeartbeats 2000000 in
theorem xc_forgetC (d : Nat) (M : ra_M) : Ex d m_X1_forgetCourse [vR 22] M (fun r M2 => r = none ∧ (∀ n, 0 ≤ n → n < 60 → M2 26 n = 0 ∧ M2 27 n = 0 ∧ M2 28 n = 0) ∧ M2 22 11 = 0 ∧ frW M M2) := by
  refine Ex_leaf (Nat.le_of_ble_eq_true rfl) (fun C K hK => ?_)
  show K 0 [some (vR 22), none] [] M
  have hK : ra_Clo _ m_X1_forgetCourse cX1_forgetCourse _ K := hK
  refine k_aln hK (q := 1)  dX1_forgetCourse_0 rfl (z := 22) rfl (k_ic hK (q := 2)  dX1_forgetCourse_1 rfl (by decide) (k_pI hK (q := 5) (M2 := up M 22 11 0) dX1_forgetCourse_2 rfl rp_X1_141 rfl rfl rfl (k_ic hK (q := 6)  dX1_forgetCourse_5 rfl (by decide) (k_isn hK (q := 7)  dX1_forgetCourse_6 rfl (L2 := [some (vR 22), some (vI 0)]) (Nat.le_of_ble_eq_true rfl) rfl ?_))))
  exact forgetC_loop hK (M0 := M) (fun M2 h1 h2 h3 => ⟨rfl, h1, h2, h3⟩) 60 0 _ (by omega) (fun t ht => by omega) (by simp [up]) ⟨frX_up (frX_refl _ _) _ _ (by decide), fun j hj => by simp [up, hj]⟩

set_option maxRecDepth 20000 in
set_option maxHeartbeats 2000000 in
theorem xc_match (d : Nat) (M : ra_M) (k n e c : Int) (S : Sc) (hs : scC M = S) (hS : okSc S) (ls : List St4) (hw : WS S (M 8) M ls e) (hk : k = 0 ∨ k = 3) (hn : 0 ≤ n ∧ n < 60) (he : 0 ≤ e ∧ e < 120) (hc : 0 ≤ c ∧ c ≤ 2000) (hl : ls.length < 7320) : Ex (d + 1) m_X1_match [vR 22, vI k, vI n, vI e, vI c] M (fun r M2 => r = some (vI 1) ∧ WS S (M 8) M2 (ls ++ [(k, n, e, c)]) (e + 1) ∧ frW M M2) := by
  refine Ex_call (Nat.le_of_ble_eq_true rfl) (fun K hK => ?_)
  show K 0 [some (vR 22), some (vI k), some (vI n), some (vI e), some (vI c)] [] M
  have hK : ra_Clo _ m_X1_match cX1_match _ K := hK
  obtain ⟨a2, a3, a4, a5, a6⟩ := scC_a hs
  have hl2 := hw.1.1
  have hll : ∀ t, 0 ≤ t → t < 60 → 0 ≤ M 26 t ∧ M 26 t ≤ 7320 ∧ 0 ≤ M 27 t ∧ M 27 t ≤ 7320 := by
    intro t a b
    have h9 := hw.2.1 t a b
    have h10 := List.countP_le_length (p := fun s : St4 => decide ((s.1 = 0 ∨ s.1 = 3) ∧ s.2.1 = t)) (l := ls)
    have h11 := List.countP_le_length (p := fun s : St4 => decide (((s.1 = 0 ∨ s.1 = 3) ∧ S 1 t = M 8 s.2.2.1) ∧ s.2.1 = t)) (l := ls)
    unfold cPl cRt at h9
    omega
  have hlln := hll n hn.1 hn.2
  refine k_aln hK (q := 1)  dX1_match_0 rfl (z := 22) rfl (k_gR hK (q := 4) (r := 25) dX1_match_1 rfl rf_X1_18 rfl rfl (k_iln hK (q := 5)  dX1_match_4 rfl (z := e) rfl (k_iln hK (q := 6)  dX1_match_5 rfl (z := n) rfl (k_ast hK (q := 7)  dX1_match_6 rfl rfl (by omega) (k_aln hK (q := 8)  dX1_match_7 rfl (z := 22) rfl ?_)))))
  refine k_gR hK (q := 11) (r := 26) dX1_match_8 rfl rf_X1_21 rfl rfl (k_iln hK (q := 12)  dX1_match_11 rfl (z := n) rfl (k_dup2 hK (q := 13)  dX1_match_12 rfl rfl rfl (k_ald hK (q := 14)  dX1_match_13 rfl (y := M 26 n) rfl (by omega) rfl (k_ic hK (q := 15)  dX1_match_14 rfl (by decide) (k_add hK (q := 16)  dX1_match_15 rfl (z := (M 26 n) + 1) rfl (by omega) ?_)))))
  refine k_ast hK (q := 17)  dX1_match_16 rfl rfl (by omega) (k_aln hK (q := 18)  dX1_match_17 rfl (z := 22) rfl (k_gR hK (q := 21) (r := 1) dX1_match_18 rfl rf_X1_30 rfl rfl (k_gR hK (q := 24) (r := 2) dX1_match_21 rfl rf_X1_155 rfl rfl (k_iln hK (q := 25)  dX1_match_24 rfl (z := n) rfl (k_ald hK (q := 26)  dX1_match_25 rfl (y := M 2 n) rfl (by omega) rfl ?_)))))
  refine k_aln hK (q := 27)  dX1_match_26 rfl (z := 22) rfl (k_gR hK (q := 30) (r := 7) dX1_match_27 rfl rf_X1_38 rfl rfl (k_gR hK (q := 33) (r := 8) dX1_match_30 rfl rf_X1_87 rfl rfl (k_iln hK (q := 34)  dX1_match_33 rfl (z := e) rfl (k_ald hK (q := 35)  dX1_match_34 rfl (y := M 8 e) rfl (by omega) rfl ?_))))
  refine k_cne hK (q := 38) (t := 48) dX1_match_35 rfl rfl (fun h35 => ?_) (fun h35 => ?_)
  · refine k_aln hK (q := 49)  dX1_match_48 rfl (z := 22) rfl (k_iln hK (q := 50)  dX1_match_49 rfl (z := k) rfl (k_iln hK (q := 51)  dX1_match_50 rfl (z := n) rfl (k_iln hK (q := 52)  dX1_match_51 rfl (z := e) rfl (k_il hK (q := 54)  dX1_match_52 rfl (z := c) rfl ?_))))
    refine k_iv4I hK (q := 57) dX1_match_54 rfl rm_X1_152 rfl rfl (Nat.le_of_ble_eq_true rfl) (xc_keepStep _ (up (up M 25 e n) 26 n ((M 26 n) + 1)) k n e c (by simp only [okSt]; omega) (by simp [up]; omega)) ?_
    refine k_irz hK dX1_match_57 rfl (by decide) ?_
    refine ⟨rfl, ⟨CO_app hw.1 (by simp [up]) (by funext j; simp [up]), fun t a b => ?_, fun t a b => ?_, fun s hs2 => ?_⟩, ⟨frX_up (frX_up (frX_up (frX_up (frX_refl _ _) _ _ (by decide)) _ _ (by decide)) _ _ (by decide)) _ _ (by decide), fun j hj => by simp [up, hj]⟩⟩
    · have h9 := hw.2.1 t a b
      rw [cPl_app, cRt_app, cPs_app]
      simp only
      by_cases ht : t = n
      · subst ht
        have c1 : (k = 0 ∨ k = 3) ∧ t = t := ⟨by omega, rfl⟩
        have c3 : ¬ (k = 2 ∧ t = t) := by omega
        rw [if_pos c1, if_neg c3, if_neg (fun q => h35 (by rw [a2]; exact q.1.2))]
        refine ⟨?_, ?_, ?_⟩ <;> simp [up] <;> omega
      · rw [if_neg (fun q => ht q.2.symm), if_neg (fun q => ht q.2.symm), if_neg (fun q => ht q.2.symm)]
        refine ⟨?_, ?_, ?_⟩ <;> simp [up, ht] <;> omega
    · rw [mtF_app]
      simp only
      by_cases ht : t = e
      · subst ht
        rw [if_pos ⟨rfl, by omega⟩]
        simp [up]
      · rw [if_neg (fun q => ht q.1.symm), ← hw.2.2.1 t a (by omega)]
        simp [up, ht]
    · rcases List.mem_append.mp hs2 with q | q
      · have := hw.2.2.2 s q; exact ⟨this.1, by omega⟩
      · have := List.mem_singleton.mp q; subst this; exact ⟨by simp only [okSt]; omega, by simp only; omega⟩
  · refine k_aln hK (q := 39)  dX1_match_38 rfl (z := 22) rfl (k_gR hK (q := 42) (r := 27) dX1_match_39 rfl rf_X1_24 rfl rfl (k_iln hK (q := 43)  dX1_match_42 rfl (z := n) rfl (k_dup2 hK (q := 44)  dX1_match_43 rfl rfl rfl (k_ald hK (q := 45)  dX1_match_44 rfl (y := M 27 n) rfl (by omega) rfl (k_ic hK (q := 46)  dX1_match_45 rfl (by decide) ?_)))))
    refine k_add hK (q := 47)  dX1_match_46 rfl (z := (M 27 n) + 1) rfl (by omega) (k_ast hK (q := 48)  dX1_match_47 rfl rfl (by omega) (k_aln hK (q := 49)  dX1_match_48 rfl (z := 22) rfl (k_iln hK (q := 50)  dX1_match_49 rfl (z := k) rfl (k_iln hK (q := 51)  dX1_match_50 rfl (z := n) rfl (k_iln hK (q := 52)  dX1_match_51 rfl (z := e) rfl ?_)))))
    refine k_il hK (q := 54)  dX1_match_52 rfl (z := c) rfl ?_
    refine k_iv4I hK (q := 57) dX1_match_54 rfl rm_X1_152 rfl rfl (Nat.le_of_ble_eq_true rfl) (xc_keepStep _ (up (up (up M 25 e n) 26 n ((M 26 n) + 1)) 27 n ((M 27 n) + 1)) k n e c (by simp only [okSt]; omega) (by simp [up]; omega)) ?_
    refine k_irz hK dX1_match_57 rfl (by decide) ?_
    refine ⟨rfl, ⟨CO_app hw.1 (by simp [up]) (by funext j; simp [up]), fun t a b => ?_, fun t a b => ?_, fun s hs2 => ?_⟩, ⟨frX_up (frX_up (frX_up (frX_up (frX_up (frX_refl _ _) _ _ (by decide)) _ _ (by decide)) _ _ (by decide)) _ _ (by decide)) _ _ (by decide), fun j hj => by simp [up, hj]⟩⟩
    · have h9 := hw.2.1 t a b
      rw [cPl_app, cRt_app, cPs_app]
      simp only
      by_cases ht : t = n
      · subst ht
        have c1 : (k = 0 ∨ k = 3) ∧ t = t := ⟨by omega, rfl⟩
        have c3 : ¬ (k = 2 ∧ t = t) := by omega
        rw [if_pos c1, if_neg c3, if_pos ⟨⟨by omega, by rw [← a2]; omega⟩, rfl⟩]
        refine ⟨?_, ?_, ?_⟩ <;> simp [up] <;> omega
      · rw [if_neg (fun q => ht q.2.symm), if_neg (fun q => ht q.2.symm), if_neg (fun q => ht q.2.symm)]
        refine ⟨?_, ?_, ?_⟩ <;> simp [up, ht] <;> omega
    · rw [mtF_app]
      simp only
      by_cases ht : t = e
      · subst ht
        rw [if_pos ⟨rfl, by omega⟩]
        simp [up]
      · rw [if_neg (fun q => ht q.1.symm), ← hw.2.2.1 t a (by omega)]
        simp [up, ht]
    · rcases List.mem_append.mp hs2 with q | q
      · have := hw.2.2.2 s q; exact ⟨this.1, by omega⟩
      · have := List.mem_singleton.mp q; subst this; exact ⟨by simp only [okSt]; omega, by simp only; omega⟩
