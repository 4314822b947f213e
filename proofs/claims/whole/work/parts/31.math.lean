/-! division and common divisors -/
theorem fd_a {a b : Int} (hb : 0 < b) (h : ¬ a < 0) : a.tdiv b = a / b := Int.tdiv_eq_ediv_of_nonneg (by omega)
theorem fd_b {a b : Int} (hb : 0 < b) (h : a.tdiv b * b = a) : a.tdiv b = a / b := by
  have h1 : (a.tdiv b * b) / b = a.tdiv b := Int.mul_ediv_cancel _ (by omega)
  rw [h] at h1
  exact h1.symm
theorem fd_c {a b : Int} (hb : 0 < b) (ha : a < 0) (h : ¬ a.tdiv b * b = a) : a.tdiv b - 1 = a / b := by
  have h1 := Int.mul_tdiv_add_tmod a b
  have h2 := tmod_bounds (a := a) hb
  have h3 : a.tmod b ≤ 0 := by
    have := Int.tmod_nonneg (a := -a) b (by omega)
    rw [Int.neg_tmod] at this
    omega
  have hc : b * a.tdiv b = a.tdiv b * b := Int.mul_comm _ _
  have h4 : a.tmod b ≠ 0 := fun q => h (by omega)
  have hd : b * (a.tdiv b - 1) = b * a.tdiv b - b := by rw [Int.mul_sub, Int.mul_one]
  exact ((Int.ediv_emod_unique (a := a) (b := b) (r := a.tmod b + b) (q := a.tdiv b - 1) hb).mpr ⟨by omega, by omega, by omega⟩).1.symm
theorem fd_in {a b : Int} (hb : 0 < b) (ha : -100000000000000 ≤ a ∧ a ≤ 100000000000000) : (-100000000000000 ≤ a.tdiv b ∧ a.tdiv b ≤ 100000000000000) := by
  by_cases h : 0 ≤ a
  · have h1 := Int.tdiv_nonneg h (by omega : (0 : Int) ≤ b)
    have h2 := Int.tdiv_le_self (a := a) b h
    omega
  · have h1 := Int.tdiv_nonneg (by omega : (0 : Int) ≤ -a) (by omega : (0 : Int) ≤ b)
    have h2 := Int.tdiv_le_self (a := -a) b (by omega)
    rw [Int.neg_tdiv] at h1 h2
    omega
theorem cd_half {x y : Nat} (hy : 0 < y) (h : y ≤ x) : 2 * (y * (x % y)) ≤ x * y := by
  have h1 := Nat.mod_lt x hy
  have h2 := Nat.div_add_mod x y
  have h3 : 1 ≤ x / y := (Nat.one_le_div_iff hy).mpr h
  have h4 : y * 1 ≤ y * (x / y) := Nat.mul_le_mul_left y h3
  have h5 : 2 * (x % y) ≤ x := by omega
  have h6 := Nat.mul_le_mul_right y h5
  rw [show 2 * (y * (x % y)) = 2 * (x % y) * y by rw [Nat.mul_comm y (x % y), Nat.mul_assoc]]
  exact h6
theorem cd_rec (x y : Nat) : Nat.gcd y (x % y) = Nat.gcd x y := by
  rw [Nat.gcd_comm x y, Nat.gcd_rec y x, Nat.gcd_comm]

set_option maxRecDepth 20000 in
set_option maxHeartbeats 2000000 in
theorem xj_floorDiv (d : Nat) (M : ra_M) (a b : Int) (ha : -100000000000000 ≤ a ∧ a ≤ 100000000000000) (hb : 1 ≤ b ∧ b ≤ 100000000) : Ex d m_J9_floorDiv_f86c9 [vJ a, vJ b] M (fun r M2 => r = some (vJ (a / b)) ∧ M2 = M) := by
  refine Ex_leaf (Nat.le_of_ble_eq_true rfl) (fun C K hK => ?_)
  show K 0 [some (vJ a), none, some (vJ b), none, none, none] [] M
  have hK : ra_Clo _ m_J9_floorDiv_f86c9 cJ9_floorDiv_f86c9 _ K := hK
  have hq := fd_in (b := b) (by omega) ha
  have h1 := Int.mul_tdiv_add_tmod a b
  have h2 := tmod_bounds (a := a) (M := b) (by omega)
  have hc : b * a.tdiv b = a.tdiv b * b := Int.mul_comm _ _
  refine k_lln hK (q := 1)  dJ9_floorDiv_f86c9_0 rfl (z := a) rfl (k_lln hK (q := 2)  dJ9_floorDiv_f86c9_1 rfl (z := b) rfl (k_ldiv hK (q := 3)  dJ9_floorDiv_f86c9_2 rfl (z := Int.tdiv a b) (by omega) rfl (by omega) (k_ls hK (q := 5)  dJ9_floorDiv_f86c9_3 rfl (L2 := [some (vJ a), none, some (vJ b), none, some (vJ (Int.tdiv a b)), none]) (Nat.le_of_ble_eq_true rfl) rfl (k_lln hK (q := 6)  dJ9_floorDiv_f86c9_5 rfl (z := a) rfl (k_lln hK (q := 7)  dJ9_floorDiv_f86c9_6 rfl (z := b) rfl ?_)))))
  refine k_lxor hK (q := 8) dJ9_floorDiv_f86c9_7 rfl (fun zx hzi hzx => ?_)
  refine k_lc hK (q := 9)  dJ9_floorDiv_f86c9_8 rfl (z := 0) rfl (k_lcmp hK (q := 10)  dJ9_floorDiv_f86c9_9 rfl ?_)
  refine k_ifge hK (q := 13) (t := 27) dJ9_floorDiv_f86c9_10 rfl rfl (fun h10 => ?_) (fun h10 => ?_)
  · have ha0 : ¬ a < 0 := by
      intro q
      have : zx < 0 := hzx.mpr (by omega)
      rw [if_neg (by omega), if_neg (by omega)] at h10
      omega
    refine k_ll hK (q := 29)  dJ9_floorDiv_f86c9_27 rfl (z := (Int.tdiv a b)) rfl ?_
    refine k_lr hK dJ9_floorDiv_f86c9_29 rfl ?_
    refine ⟨?_, rfl⟩
    first | rw [fd_a (by omega) ha0] | (rw [fd_b (by omega) ?_]; split at h19 <;> (try split at h19) <;> omega)
  · have ha0 : a < 0 := by
      by_cases q : a < 0
      · exact q
      · exfalso
        have : ¬ zx < 0 := fun q2 => (hzx.mp q2) (by omega)
        apply h10
        split
        · omega
        · rw [if_pos (by omega)]; omega
    refine k_ll hK (q := 15)  dJ9_floorDiv_f86c9_13 rfl (z := (Int.tdiv a b)) rfl (k_lln hK (q := 16)  dJ9_floorDiv_f86c9_15 rfl (z := b) rfl (k_lmul hK (q := 17)  dJ9_floorDiv_f86c9_16 rfl (z := (Int.tdiv a b) * b) rfl (by omega) (k_lln hK (q := 18)  dJ9_floorDiv_f86c9_17 rfl (z := a) rfl (k_lcmp hK (q := 19)  dJ9_floorDiv_f86c9_18 rfl ?_))))
    refine k_ifeq hK (q := 22) (t := 27) dJ9_floorDiv_f86c9_19 rfl rfl (fun h19 => ?_) (fun h19 => ?_)
    · refine k_ll hK (q := 29)  dJ9_floorDiv_f86c9_27 rfl (z := (Int.tdiv a b)) rfl ?_
      refine k_lr hK dJ9_floorDiv_f86c9_29 rfl ?_
      refine ⟨?_, rfl⟩
      first | rw [fd_a (by omega) ha0] | (rw [fd_b (by omega) ?_]; split at h19 <;> (try split at h19) <;> omega)
    · refine k_ll hK (q := 24)  dJ9_floorDiv_f86c9_22 rfl (z := (Int.tdiv a b)) rfl (k_lc hK (q := 25)  dJ9_floorDiv_f86c9_24 rfl (z := 1) rfl (k_lsub hK (q := 26)  dJ9_floorDiv_f86c9_25 rfl (z := (Int.tdiv a b) - 1) rfl (by omega) ?_))
      refine k_lr hK dJ9_floorDiv_f86c9_26 rfl ?_
      refine ⟨?_, rfl⟩
      rw [fd_c (by omega) ha0 ?_]
      intro q
      apply h19
      rw [if_neg (by omega), if_pos q]

set_option maxRecDepth 20000 in
set_option maxHeartbeats 2000000 in
theorem cd_loop {C : Nat → List ra_V → ra_M → (Option ra_V → ra_M → Prop) → Prop} {Q : Option ra_V → ra_M → Prop} {K : Nat → ra_L → List ra_V → ra_M → Prop} (hK : ra_Clo C m_X7_commonDivisor cX7_commonDivisor Q K) {M : ra_M} {a b : Int} {g : Nat} (hQ0 : Q (some (vI (g : Nat))) M) :
    ∀ (n r x y : Nat), r + n = 64 → x < 100000000 ∧ y < 100000000 → g = Nat.gcd x y → ((y ≤ x ∧ x * y < 2 ^ n) ∨ (x < y ∧ 1 ≤ n ∧ x * y < 2 ^ (n - 1))) → K 7 [some (vI a), some (vI b), some (vI (x : Nat)), some (vI (y : Nat)), some (vI (r : Nat)), none] [] M := by
  intro n
  induction n with
  | zero =>
    intro r x y hr hxy hg hp
    have hQ : g = x → Q (some (vI (x : Nat))) M := fun q => q ▸ hQ0
    refine k_il hK (q := 9)  dX7_commonDivisor_7 rfl (z := (r : Nat)) rfl (k_bp hK (q := 11)  dX7_commonDivisor_9 rfl (by decide) ?_)
    refine k_cge hK (q := 14) (t := 34) dX7_commonDivisor_11 rfl rfl (fun h11 => ?_) (fun h11 => ?_)
    · refine k_iln hK (q := 35)  dX7_commonDivisor_34 rfl (z := (x : Nat)) rfl ?_
      refine k_ir hK dX7_commonDivisor_35 rfl ?_
      have hy : y = 0 := by
        rcases hp with ⟨h1, h2⟩ | ⟨h1, h2, h3⟩
        · have h4 : x * y = 0 := by have h5 : (2 : Nat) ^ 0 = 1 := rfl; omega
          rcases Nat.mul_eq_zero.mp h4 with h2 | h2 <;> omega
        · omega
      subst hy
      exact hQ (by rw [hg]; simp)
    · exact absurd h11 (by omega)
  | succ n ih =>
    intro r x y hr hxy hg hp
    have hQ : g = x → Q (some (vI (x : Nat))) M := fun q => q ▸ hQ0
    have hmod : Int.tmod (x : Nat) (y : Nat) = ((x % y : Nat) : Int) := rfl
    refine k_il hK (q := 9)  dX7_commonDivisor_7 rfl (z := (r : Nat)) rfl (k_bp hK (q := 11)  dX7_commonDivisor_9 rfl (by decide) ?_)
    refine k_cge hK (q := 14) (t := 34) dX7_commonDivisor_11 rfl rfl (fun h11 => ?_) (fun h11 => ?_)
    · exact absurd h11 (by omega)
    · refine k_iln hK (q := 15)  dX7_commonDivisor_14 rfl (z := (y : Nat)) rfl ?_
      refine k_ifeq hK (q := 18) (t := 34) dX7_commonDivisor_15 rfl rfl (fun h15 => ?_) (fun h15 => ?_)
      · have hy : y = 0 := by omega
        subst hy
        refine k_iln hK (q := 35)  dX7_commonDivisor_34 rfl (z := (x : Nat)) rfl ?_
        refine k_ir hK dX7_commonDivisor_35 rfl ?_
        exact hQ (by rw [hg]; simp)
      · refine k_iln hK (q := 19)  dX7_commonDivisor_18 rfl (z := (x : Nat)) rfl (k_iln hK (q := 20)  dX7_commonDivisor_19 rfl (z := (y : Nat)) rfl (k_rem hK (q := 21)  dX7_commonDivisor_20 rfl (z := Int.tmod (x : Nat) (y : Nat)) (by omega) rfl (by rw [hmod]; have := Nat.mod_lt x (show 0 < y by omega); omega) ?_))
        rw [hmod]
        refine k_is hK (q := 23)  dX7_commonDivisor_21 rfl (L2 := [some (vI a), some (vI b), some (vI (x : Nat)), some (vI (y : Nat)), some (vI (r : Nat)), some (vI ((x % y : Nat) : Int))]) (Nat.le_of_ble_eq_true rfl) rfl (k_iln hK (q := 24)  dX7_commonDivisor_23 rfl (z := (y : Nat)) rfl (k_isn hK (q := 25)  dX7_commonDivisor_24 rfl (L2 := [some (vI a), some (vI b), some (vI (y : Nat)), some (vI (y : Nat)), some (vI (r : Nat)), some (vI ((x % y : Nat) : Int))]) (Nat.le_of_ble_eq_true rfl) rfl (k_il hK (q := 27)  dX7_commonDivisor_25 rfl (z := ((x % y : Nat) : Int)) rfl (k_isn hK (q := 28)  dX7_commonDivisor_27 rfl (L2 := [some (vI a), some (vI b), some (vI (y : Nat)), some (vI ((x % y : Nat) : Int)), some (vI (r : Nat)), some (vI ((x % y : Nat) : Int))]) (Nat.le_of_ble_eq_true rfl) rfl (k_inc hK (q := 31)  dX7_commonDivisor_28 rfl (y := (r : Nat) + 1) (L2 := [some (vI a), some (vI b), some (vI (y : Nat)), some (vI ((x % y : Nat) : Int)), some (vI ((r : Nat) + 1)), some (vI ((x % y : Nat) : Int))]) rfl rfl (by omega) rfl ?_)))))
        refine k_goto hK (t := 7) dX7_commonDivisor_31 rfl ?_
        refine k_weak hK (L2 := [some (vI a), some (vI b), some (vI (y : Nat)), some (vI ((x % y : Nat) : Int)), some (vI ((r : Nat) + 1)), none]) ⟨Or.inl rfl, Or.inl rfl, Or.inl rfl, Or.inl rfl, Or.inl rfl, Or.inr rfl, trivial⟩ ?_
        have hy0 : 0 < y := by omega
        have hml := Nat.mod_lt x hy0
        refine ih (r + 1) y (x % y) (by omega) (by omega) (by rw [hg, cd_rec]) ?_
        rcases hp with ⟨h1, h2⟩ | ⟨h1, h2, h3⟩
        · left
          have h4 := cd_half hy0 h1
          rw [Nat.pow_succ] at h2
          exact ⟨by omega, by omega⟩
        · left
          rw [Nat.mod_eq_of_lt h1]
          refine ⟨by omega, ?_⟩
          rw [Nat.mul_comm]
          simpa using h3

set_option maxRecDepth 20000 in
set_option maxHeartbeats 2000000 in
theorem xc_cd (d : Nat) (M : ra_M) (a b : Int) (ha : 0 ≤ a ∧ a < 100000000) (hb : 0 ≤ b ∧ b < 100000000) : Ex d m_X7_commonDivisor [vI a, vI b] M (fun r M2 => r = some (vI (((Nat.gcd a.toNat b.toNat : Nat) : Int))) ∧ M2 = M) := by
  refine Ex_leaf (Nat.le_of_ble_eq_true rfl) (fun C K hK => ?_)
  show K 0 [some (vI a), some (vI b), none, none, none, none] [] M
  have hK : ra_Clo _ m_X7_commonDivisor cX7_commonDivisor _ K := hK
  refine k_iln hK (q := 1)  dX7_commonDivisor_0 rfl (z := a) rfl (k_isn hK (q := 2)  dX7_commonDivisor_1 rfl (L2 := [some (vI a), some (vI b), some (vI a), none, none, none]) (Nat.le_of_ble_eq_true rfl) rfl (k_iln hK (q := 3)  dX7_commonDivisor_2 rfl (z := b) rfl (k_isn hK (q := 4)  dX7_commonDivisor_3 rfl (L2 := [some (vI a), some (vI b), some (vI a), some (vI b), none, none]) (Nat.le_of_ble_eq_true rfl) rfl (k_ic hK (q := 5)  dX7_commonDivisor_4 rfl (by decide) (k_is hK (q := 7)  dX7_commonDivisor_5 rfl (L2 := [some (vI a), some (vI b), some (vI a), some (vI b), some (vI 0), none]) (Nat.le_of_ble_eq_true rfl) rfl ?_)))))
  have ea : a = (a.toNat : Nat) := by omega
  have eb : b = (b.toNat : Nat) := by omega
  have hm : a.toNat * b.toNat < 2 ^ 63 := by
    have h1 : a.toNat * b.toNat ≤ 100000000 * 100000000 := Nat.mul_le_mul (by omega) (by omega)
    omega
  have key := cd_loop hK (M := M) (a := a) (b := b) (g := Nat.gcd a.toNat b.toNat) ⟨rfl, rfl⟩ 64 0 a.toNat b.toNat (by omega) (by omega) rfl (by by_cases h : b.toNat ≤ a.toNat; exact Or.inl ⟨h, by omega⟩; exact Or.inr ⟨by omega, by omega, by simpa using hm⟩)
  rw [← ea, ← eb] at key
  exact key

def low (u l side : Int) : Int := (if side = 0 then u else l) / ((Nat.gcd u.toNat l.toNat : Nat) : Int)

set_option maxRecDepth 20000 in
set_option maxHeartbeats 2000000 in
theorem xc_lowest (d : Nat) (M : ra_M) (u l side : Int) (hu : 0 ≤ u ∧ u < 100000000) (hl : 1 ≤ l ∧ l < 100000000) : Ex (d + 1) m_X7_lowestTerms [vI u, vI l, vI side] M (fun r M2 => r = some (vI (low u l side)) ∧ M2 = M) := by
  refine Ex_call (Nat.le_of_ble_eq_true rfl) (fun K hK => ?_)
  show K 0 [some (vI u), some (vI l), some (vI side), none, none] [] M
  have hK : ra_Clo _ m_X7_lowestTerms cX7_lowestTerms _ K := hK
  have hg : 1 ≤ ((Nat.gcd u.toNat l.toNat : Nat) : Int) := by
    have := Nat.gcd_pos_of_pos_right u.toNat (show 0 < l.toNat by omega)
    omega
  generalize hG : ((Nat.gcd u.toNat l.toNat : Nat) : Int) = g at hg
  have d1 : 0 ≤ u.tdiv g ∧ u.tdiv g ≤ u := ⟨Int.tdiv_nonneg hu.1 (by omega), Int.tdiv_le_self g hu.1⟩
  have d2 : 0 ≤ l.tdiv g ∧ l.tdiv g ≤ l := ⟨Int.tdiv_nonneg (by omega) (by omega), Int.tdiv_le_self g (by omega)⟩
  refine k_iln hK (q := 1)  dX7_lowestTerms_0 rfl (z := u) rfl (k_iln hK (q := 2)  dX7_lowestTerms_1 rfl (z := l) rfl ?_)
  refine k_st2I hK (q := 5) dX7_lowestTerms_2 rfl rm_X7_245 (Nat.le_of_ble_eq_true rfl) (xc_cd _ M u l hu (by omega)) ?_
  rw [hG]
  refine k_isn hK (q := 6)  dX7_lowestTerms_5 rfl (L2 := [some (vI u), some (vI l), some (vI side), some (vI g), none]) (Nat.le_of_ble_eq_true rfl) rfl (k_iln hK (q := 7)  dX7_lowestTerms_6 rfl (z := side) rfl ?_)
  refine k_ifne hK (q := 10) (t := 14) dX7_lowestTerms_7 rfl rfl (fun h7 => ?_) (fun h7 => ?_)
  · refine k_iln hK (q := 15)  dX7_lowestTerms_14 rfl (z := l) rfl (k_is hK (q := 17)  dX7_lowestTerms_15 rfl (L2 := [some (vI u), some (vI l), some (vI side), some (vI g), some (vI l)]) (Nat.le_of_ble_eq_true rfl) rfl (k_iln hK (q := 18)  dX7_lowestTerms_17 rfl (z := g) rfl ?_))
    refine k_ifne hK (q := 21) (t := 26) dX7_lowestTerms_18 rfl rfl (fun h18 => ?_) (fun h18 => ?_)
    · refine k_il hK (q := 28)  dX7_lowestTerms_26 rfl (z := l) rfl (k_iln hK (q := 29)  dX7_lowestTerms_28 rfl (z := g) rfl (k_div hK (q := 30)  dX7_lowestTerms_29 rfl (z := Int.tdiv l g) (by omega) rfl (by omega) ?_))
      refine k_ir hK dX7_lowestTerms_30 rfl ?_
      refine ⟨?_, rfl⟩
      unfold low
      rw [hG]
      first | rw [if_pos h7, fd_a (by omega) (by omega)] | rw [if_neg h7, fd_a (by omega) (by omega)]
    · exact absurd h18 (by omega)
  · refine k_iln hK (q := 11)  dX7_lowestTerms_10 rfl (z := u) rfl (k_goto hK (t := 15) dX7_lowestTerms_11 rfl (k_is hK (q := 17)  dX7_lowestTerms_15 rfl (L2 := [some (vI u), some (vI l), some (vI side), some (vI g), some (vI u)]) (Nat.le_of_ble_eq_true rfl) rfl (k_iln hK (q := 18)  dX7_lowestTerms_17 rfl (z := g) rfl ?_)))
    refine k_ifne hK (q := 21) (t := 26) dX7_lowestTerms_18 rfl rfl (fun h18 => ?_) (fun h18 => ?_)
    · refine k_il hK (q := 28)  dX7_lowestTerms_26 rfl (z := u) rfl (k_iln hK (q := 29)  dX7_lowestTerms_28 rfl (z := g) rfl (k_div hK (q := 30)  dX7_lowestTerms_29 rfl (z := Int.tdiv u g) (by omega) rfl (by omega) ?_))
      refine k_ir hK dX7_lowestTerms_30 rfl ?_
      refine ⟨?_, rfl⟩
      unfold low
      rw [hG]
      first | rw [if_pos h7, fd_a (by omega) (by omega)] | rw [if_neg h7, fd_a (by omega) (by omega)]
    · exact absurd h18 (by omega)
