/-! THE LAW: its loop, and the call of each kind -/
theorem Iv_mono {t : Nat} {M : ra_M} (h : Iv t M) : Iv (t + 1) M := by
  obtain ⟨⟨S, cnt, hp, ht, ses, bx, du, al⟩, hw, hI, hM⟩ := h
  exact ⟨_, WF_mono hw, hI, hM⟩
def lwV (b : Nat) (ad : Nat → Nat) (qo t : Nat) : List (Nat × Value) := [(0, .ref b), (1, .ref (ad 0)), (2, .ref (ad 32)), (3, .ref qo), (4, .int (Int32.ofInt (3 * (t : Int))))]
theorem lv_mem {ls : Array Slot} {n : Nat} {l l2 : List (Nat × Value)} (h : lv_has ls n l) (hs : ∀ q ∈ l2, q ∈ l) : lv_has ls n l2 := ⟨h.1, h.2.1, fun q hq => h.2.2 q (hs q hq)⟩
/-- an int of the script onto the stack -/
def lwA (pc : Nat) (n : Int) : Prop := decode code pc = .ok (.aload_n 0, 1) ∧ decode code (pc + 1) = .ok (.iload 4, 2) ∧ decode code (pc + 3) = .ok (.iconst n, 1) ∧ decode code (pc + 4) = .ok (.iadd, 1) ∧ decode code (pc + 5) = .ok (.iaload, 1)
/-- what stands through the law -/
def lwF (p : Program) (s : State) (m : MethodId) (c : Code) (b L : Nat) (xs : Nat → Int32) (D : va_G) (cA cL : ClassId) (ad : Nat → Nat) (A : Nat → Prop) : Prop :=
  CallFix p m c code 7 s #[Value.ref b] lwg RL ∧ va_X b L xs s s.heap ∧ b < s.heap.size ∧ ¬ A b ∧ L ≤ 1536 ∧ va_K D vwCl [(cA, .int), (cL, .long)] s ∧ ra_sta ad A s s.heap ∧ thS A s s.heap ∧ ∀ q, s.heap.size ≤ q → A q
/-- the objects -/
def lwI (s : State) (D : va_G) (cA cL : ClassId) (ad : Nat → Nat) (A : Nat → Prop) (qo : Nat) (f : Nat → Int64) (M : ra_M) (H : Heap) (locs : List Loc) : Prop := ra_okM M ∧ va_P D vwCl (w2 cA ad M qo cL f) H ∧ va_D A (w2 cA ad M qo cL f) ∧ va_S A s.heap H locs
theorem lw_in32 (x : Int32) : in32 x.toInt := ⟨Int32.le_toInt x, Int32.toInt_le x⟩
theorem lw_sum (ad : Nat → Nat) (r : Option ra_V) : (((r.map (ra_cv ad)).toList ++ ([] : List Value)).map fun v => v.category).sum ≤ 8 := by
  cases r with
  | none => exact Nat.zero_le _
  | some v =>
    have h := ra_cat ad v
    show (ra_cv ad v).category + 0 ≤ 8
    rw [h]
    split <;> omega
section LAW
variable {p : Program} {l : Launch} {e : Env} {s : State} {m : MethodId} {below : List Frame} {meth : Method} {c : Code} {b L : Nat} {xs : Nat → Int32} {D : va_G} {cA cL : ClassId} {ad : Nat → Nat} {A : Nat → Prop} {qo : Nat} {f : Nat → Int64} {QF : State → Prop} {H : Heap} {locs : List Loc} {cells slots t : Nat} {ls : Array Slot} {M : ra_M}
theorem lw_arg {pc j : Nat} {n : Int} {rest : List Value} (F : lwF p s m c b L xs D cA cL ad A) (hS : va_S A s.heap H locs) (hl : lv_has ls 7 (lwV b ad qo t)) (ht : 3 * t + 2 < L) (hj : j ≤ 2) (hn : n = (j : Int)) (d : lwA pc n)
    (kk : W p l e room_1 s m #[Value.ref b] below meth c H locs cells slots QF (F0 m (pc + 6) ls (.int (Int32.ofInt (xs (3 * t + j)).toInt) :: rest))) : W p l e room_1 s m #[Value.ref b] below meth c H locs cells slots QF (F0 m pc ls rest) := by
  obtain ⟨⟨hx, hb, -, -, -⟩, hX, hbl, hbA, hL, -⟩ := F
  obtain ⟨d0, d1, d3, d4, d5⟩ := d
  refine lv_aload_n hx hb d0 rfl (lv_at hl 0 rfl) ?_
  refine lv_iload hx hb d1 (lv_at hl 4 rfl) ?_
  refine lv_iconst (v := Int32.ofInt n) hx hb d3 rfl ?_
  refine lv_iadd hx hb d4 ?_
  rw [← Int32.ofInt_add]
  have o : in32 (3 * (t : Int) + n) := ⟨by omega, by omega⟩
  refine va_sld hx hb hX hbl hbA hS (ra_vin o (by omega) (by omega)) d5 ?_
  have e9 : (Int32.ofInt (3 * (t : Int) + n)).toNatClampNeg = 3 * t + j := by
    have := ra_cl o (by omega)
    omega
  rw [e9]
  rw [Int32.ofInt_toInt] at kk
  exact kk
/-- a call of the law's that both objects answer: none, one, two ints of the script -/
theorem lw_i0 {P i1 i2 m1 m2 : Nat} {off : Int} (F : lwF p s m c b L xs D cA cL ad A) (I : lwI s D cA cL ad A qo f M H locs) (hl : lv_has ls 7 (lwV b ad qo t)) (hcs : cells ≤ 601024 ∧ slots ≤ 7293034)
    (a0 : decode code P = .ok (.aload_n 1, 1)) (c1 : decode code (P + 1) = .ok (.invokevirtual i1, 3)) (a1 : decode code (P + 4) = .ok (.aload_n 2, 1)) (c2 : decode code (P + 5) = .ok (.invokevirtual i2, 3)) (de : decode code (P + 8) = .ok (.if_icmp .eq off, 3)) (ho : ((P + 8 : Nat) : Int) + off = (739 : Nat))
    (r1 : ra_CV RL i1 m1 0) (r2 : ra_CV RL i2 m2 0) (h1 : vwCl[7]? = some ((mY m1).cls, TX7, 7)) (h2 : vwCl[8]? = some ((mY m2).cls, TX8, 35))
    (hpr : Ex 8 m1 [vR 0] M (fun r M1 => Ex 8 m2 [vR 32] M1 (fun r2 M2 => ∃ z, r = some (vI z) ∧ r2 = some (vI z) ∧ Iv (t + 1) M2)))
    (kk : ∀ (M : ra_M) (H : Heap) (locs : List Loc), Iv (t + 1) M → lwI s D cA cL ad A qo f M H locs → W p l e room_1 s m #[Value.ref b] below meth c H locs cells slots QF (F0 m 739 ls [])) : W p l e room_1 s m #[Value.ref b] below meth c H locs cells slots QF (F0 m P ls []) := by
  obtain ⟨hcf, -, -, -, -, hK, hsta, -, hA⟩ := id F
  obtain ⟨hx, hb, -, -, -⟩ := id hcf
  obtain ⟨oM, hP, hD, hS⟩ := I
  refine lv_aload_n hx hb a0 rfl (lv_at hl 1 rfl) ?_
  refine lw_cv (as := []) (k0 := 0) (rest := []) hcf hK hsta hA hpr r1 (ci := 7) rfl h1 (fun v hv => by cases hv) oM hP hD hS ⟨Nat.le_of_ble_eq_true rfl, Nat.le_of_ble_eq_true rfl⟩ hcs (Nat.zero_le _) hl.1 c1 (fun r M1 H1 locs1 hq oM1 or1 hP1 hD1 hS1 => ?_)
  refine lv_aload_n hx hb a1 rfl (lv_at hl 2 rfl) ?_
  refine lw_cv (as := []) (k0 := 32) (rest := (r.map (ra_cv ad)).toList ++ []) hcf hK hsta hA hq r2 (ci := 8) rfl h2 (fun v hv => by cases hv) oM1 hP1 hD1 hS1 ⟨Nat.le_of_ble_eq_true rfl, Nat.le_of_ble_eq_true rfl⟩ hcs (lw_sum ad r) hl.1 c2 (fun r2 M2 H2 locs2 hq2 oM2 or2 hP2 hD2 hS2 => ?_)
  obtain ⟨z, rfl, rfl, hI2⟩ := hq2
  exact lv_icmp_eq hx hb de ho (fun _ => kk M2 H2 locs2 hI2 ⟨oM2, hP2, hD2, hS2⟩) (fun h => absurd rfl h)
theorem lw_i1 {P i1 i2 m1 m2 : Nat} {off : Int} (F : lwF p s m c b L xs D cA cL ad A) (I : lwI s D cA cL ad A qo f M H locs) (hl : lv_has ls 7 (lwV b ad qo t)) (ht : 3 * t + 2 < L) (hcs : cells ≤ 601024 ∧ slots ≤ 7293034)
    (a0 : decode code P = .ok (.aload_n 1, 1)) (g1 : lwA (P + 1) 1) (c1 : decode code (P + 7) = .ok (.invokevirtual i1, 3)) (a1 : decode code (P + 10) = .ok (.aload_n 2, 1)) (g2 : lwA (P + 11) 1) (c2 : decode code (P + 17) = .ok (.invokevirtual i2, 3)) (de : decode code (P + 20) = .ok (.if_icmp .eq off, 3)) (ho : ((P + 20 : Nat) : Int) + off = (739 : Nat))
    (r1 : ra_CV RL i1 m1 1) (r2 : ra_CV RL i2 m2 1) (h1 : vwCl[7]? = some ((mY m1).cls, TX7, 7)) (h2 : vwCl[8]? = some ((mY m2).cls, TX8, 35))
    (hpr : Ex 8 m1 [vR 0, vI (xs (3 * t + 1)).toInt] M (fun r M1 => Ex 8 m2 [vR 32, vI (xs (3 * t + 1)).toInt] M1 (fun r2 M2 => ∃ z, r = some (vI z) ∧ r2 = some (vI z) ∧ Iv (t + 1) M2)))
    (kk : ∀ (M : ra_M) (H : Heap) (locs : List Loc), Iv (t + 1) M → lwI s D cA cL ad A qo f M H locs → W p l e room_1 s m #[Value.ref b] below meth c H locs cells slots QF (F0 m 739 ls [])) : W p l e room_1 s m #[Value.ref b] below meth c H locs cells slots QF (F0 m P ls []) := by
  obtain ⟨hcf, -, -, -, -, hK, hsta, -, hA⟩ := id F
  obtain ⟨hx, hb, -, -, -⟩ := id hcf
  obtain ⟨oM, hP, hD, hS⟩ := I
  have has : ∀ v ∈ [vI (xs (3 * t + 1)).toInt], ra_okV v := fun v hv => by
    cases hv with
    | head => exact lw_in32 _
    | tail _ h => cases h
  refine lv_aload_n hx hb a0 rfl (lv_at hl 1 rfl) ?_
  refine lw_arg F hS hl ht (j := 1) (by omega) rfl g1 ?_
  refine lw_cv (as := [vI (xs (3 * t + 1)).toInt]) (k0 := 0) (rest := []) hcf hK hsta hA hpr r1 (ci := 7) rfl h1 has oM hP hD hS ⟨Nat.le_of_ble_eq_true rfl, Nat.le_of_ble_eq_true rfl⟩ hcs (Nat.zero_le _) hl.1 c1 (fun r M1 H1 locs1 hq oM1 or1 hP1 hD1 hS1 => ?_)
  refine lv_aload_n hx hb a1 rfl (lv_at hl 2 rfl) ?_
  refine lw_arg F hS1 hl ht (j := 1) (by omega) rfl g2 ?_
  refine lw_cv (as := [vI (xs (3 * t + 1)).toInt]) (k0 := 32) (rest := (r.map (ra_cv ad)).toList ++ []) hcf hK hsta hA hq r2 (ci := 8) rfl h2 has oM1 hP1 hD1 hS1 ⟨Nat.le_of_ble_eq_true rfl, Nat.le_of_ble_eq_true rfl⟩ hcs (lw_sum ad r) hl.1 c2 (fun r2 M2 H2 locs2 hq2 oM2 or2 hP2 hD2 hS2 => ?_)
  obtain ⟨z, rfl, rfl, hI2⟩ := hq2
  exact lv_icmp_eq hx hb de ho (fun _ => kk M2 H2 locs2 hI2 ⟨oM2, hP2, hD2, hS2⟩) (fun h => absurd rfl h)
theorem lw_i2 {P i1 i2 m1 m2 : Nat} {off : Int} (F : lwF p s m c b L xs D cA cL ad A) (I : lwI s D cA cL ad A qo f M H locs) (hl : lv_has ls 7 (lwV b ad qo t)) (ht : 3 * t + 2 < L) (hcs : cells ≤ 601024 ∧ slots ≤ 7293034)
    (a0 : decode code P = .ok (.aload_n 1, 1)) (g1 : lwA (P + 1) 1) (g3 : lwA (P + 7) 2) (c1 : decode code (P + 13) = .ok (.invokevirtual i1, 3)) (a1 : decode code (P + 16) = .ok (.aload_n 2, 1)) (g2 : lwA (P + 17) 1) (g4 : lwA (P + 23) 2) (c2 : decode code (P + 29) = .ok (.invokevirtual i2, 3)) (de : decode code (P + 32) = .ok (.if_icmp .eq off, 3)) (ho : ((P + 32 : Nat) : Int) + off = (739 : Nat))
    (r1 : ra_CV RL i1 m1 2) (r2 : ra_CV RL i2 m2 2) (h1 : vwCl[7]? = some ((mY m1).cls, TX7, 7)) (h2 : vwCl[8]? = some ((mY m2).cls, TX8, 35))
    (hpr : Ex 8 m1 [vR 0, vI (xs (3 * t + 1)).toInt, vI (xs (3 * t + 2)).toInt] M (fun r M1 => Ex 8 m2 [vR 32, vI (xs (3 * t + 1)).toInt, vI (xs (3 * t + 2)).toInt] M1 (fun r2 M2 => ∃ z, r = some (vI z) ∧ r2 = some (vI z) ∧ Iv (t + 1) M2)))
    (kk : ∀ (M : ra_M) (H : Heap) (locs : List Loc), Iv (t + 1) M → lwI s D cA cL ad A qo f M H locs → W p l e room_1 s m #[Value.ref b] below meth c H locs cells slots QF (F0 m 739 ls [])) : W p l e room_1 s m #[Value.ref b] below meth c H locs cells slots QF (F0 m P ls []) := by
  obtain ⟨hcf, -, -, -, -, hK, hsta, -, hA⟩ := id F
  obtain ⟨hx, hb, -, -, -⟩ := id hcf
  obtain ⟨oM, hP, hD, hS⟩ := I
  have has : ∀ v ∈ [vI (xs (3 * t + 1)).toInt, vI (xs (3 * t + 2)).toInt], ra_okV v := fun v hv => by
    cases hv with
    | head => exact lw_in32 _
    | tail _ h => cases h with
      | head => exact lw_in32 _
      | tail _ h => cases h
  refine lv_aload_n hx hb a0 rfl (lv_at hl 1 rfl) ?_
  refine lw_arg F hS hl ht (j := 1) (by omega) rfl g1 ?_
  refine lw_arg F hS hl ht (j := 2) (by omega) rfl g3 ?_
  refine lw_cv (as := [vI (xs (3 * t + 1)).toInt, vI (xs (3 * t + 2)).toInt]) (k0 := 0) (rest := []) hcf hK hsta hA hpr r1 (ci := 7) rfl h1 has oM hP hD hS ⟨Nat.le_of_ble_eq_true rfl, Nat.le_of_ble_eq_true rfl⟩ hcs (Nat.zero_le _) hl.1 c1 (fun r M1 H1 locs1 hq oM1 or1 hP1 hD1 hS1 => ?_)
  refine lv_aload_n hx hb a1 rfl (lv_at hl 2 rfl) ?_
  refine lw_arg F hS1 hl ht (j := 1) (by omega) rfl g2 ?_
  refine lw_arg F hS1 hl ht (j := 2) (by omega) rfl g4 ?_
  refine lw_cv (as := [vI (xs (3 * t + 1)).toInt, vI (xs (3 * t + 2)).toInt]) (k0 := 32) (rest := (r.map (ra_cv ad)).toList ++ []) hcf hK hsta hA hq r2 (ci := 8) rfl h2 has oM1 hP1 hD1 hS1 ⟨Nat.le_of_ble_eq_true rfl, Nat.le_of_ble_eq_true rfl⟩ hcs (lw_sum ad r) hl.1 c2 (fun r2 M2 H2 locs2 hq2 oM2 or2 hP2 hD2 hS2 => ?_)
  obtain ⟨z, rfl, rfl, hI2⟩ := hq2
  exact lv_icmp_eq hx hb de ho (fun _ => kk M2 H2 locs2 hI2 ⟨oM2, hP2, hD2, hS2⟩) (fun h => absurd rfl h)
/-- ahead -/
theorem lw_ahead (F : lwF p s m c b L xs D cA cL ad A) (I : lwI s D cA cL ad A qo f M H locs) (hl : lv_has ls 7 (lwV b ad qo t)) (ht : 3 * t + 2 < L) (hcs : cells ≤ 601024 ∧ slots ≤ 7293034) (hv : Iv t M)
    (kk : ∀ (M : ra_M) (H : Heap) (locs : List Loc), Iv (t + 1) M → lwI s D cA cL ad A qo f M H locs → W p l e room_1 s m #[Value.ref b] below meth c H locs cells slots QF (F0 m 739 ls [])) : W p l e room_1 s m #[Value.ref b] below meth c H locs cells slots QF (F0 m 432 ls []) := by
  obtain ⟨hcf, -, -, -, -, hK, hsta, -, hA⟩ := id F
  obtain ⟨hx, hb, -, -, -⟩ := id hcf
  obtain ⟨oM, hP, hD, hS⟩ := I
  have has : ∀ v ∈ [vI (xs (3 * t + 1)).toInt], ra_okV v := fun v hv => by
    cases hv with
    | head => exact lw_in32 _
    | tail _ h => cases h
  refine lv_aload_n hx hb dL_law_432 rfl (lv_at hl 1 rfl) ?_
  refine lw_arg F hS hl ht (j := 1) (by omega) rfl ⟨dL_law_433, dL_law_434, dL_law_436, dL_law_437, dL_law_438⟩ ?_
  refine lw_cv (as := [vI (xs (3 * t + 1)).toInt]) (k0 := 0) (rest := []) hcf hK hsta hA (pr_ahead t M hv _) rm_L_60 (ci := 7) rfl (T1 := TX7) (N1 := 7) rfl has oM hP hD hS ⟨Nat.le_of_ble_eq_true rfl, Nat.le_of_ble_eq_true rfl⟩ hcs (Nat.zero_le _) hl.1 dL_law_439 (fun r M1 H1 locs1 hq oM1 or1 hP1 hD1 hS1 => ?_)
  refine lv_aload_n hx hb dL_law_442 rfl (lv_at hl 2 rfl) ?_
  refine lw_arg F hS1 hl ht (j := 1) (by omega) rfl ⟨dL_law_443, dL_law_444, dL_law_446, dL_law_447, dL_law_448⟩ ?_
  refine lw_cv (as := [vI (xs (3 * t + 1)).toInt]) (k0 := 32) (rest := (r.map (ra_cv ad)).toList ++ []) hcf hK hsta hA hq rm_L_64 (ci := 8) rfl (T1 := TX8) (N1 := 35) rfl has oM1 hP1 hD1 hS1 ⟨Nat.le_of_ble_eq_true rfl, Nat.le_of_ble_eq_true rfl⟩ hcs (lw_sum ad r) hl.1 dL_law_449 (fun r2 M2 H2 locs2 hq2 oM2 or2 hP2 hD2 hS2 => ?_)
  obtain ⟨z, rfl, rfl, hI2⟩ := hq2
  have oz : in64 z := or2 _ rfl
  refine W.lcmp hx hb dL_law_452 ?_
  rw [ra_cmpJ oz oz]
  refine lv_if_eq hx hb dL_law_453 (tgt := 739) rfl (fun _ => kk M2 H2 locs2 hI2 ⟨oM2, hP2, hD2, hS2⟩) (fun h => absurd ?_ h)
  rw [if_neg (Int.lt_irrefl z), if_pos rfl]
  rfl
/-- clear -/
theorem lw_clear (F : lwF p s m c b L xs D cA cL ad A) (I : lwI s D cA cL ad A qo f M H locs) (hl : lv_has ls 7 (lwV b ad qo t)) (hcs : cells ≤ 601024 ∧ slots ≤ 7293034) (hv : Iv t M)
    (kk : ∀ (M : ra_M) (H : Heap) (locs : List Loc), Iv (t + 1) M → lwI s D cA cL ad A qo f M H locs → W p l e room_1 s m #[Value.ref b] below meth c H locs cells slots QF (F0 m 739 ls [])) : W p l e room_1 s m #[Value.ref b] below meth c H locs cells slots QF (F0 m 136 ls []) := by
  obtain ⟨hcf, -, -, -, -, hK, hsta, -, hA⟩ := id F
  obtain ⟨hx, hb, -, -, -⟩ := id hcf
  obtain ⟨oM, hP, hD, hS⟩ := I
  refine lv_aload_n hx hb dL_law_136 rfl (lv_at hl 1 rfl) ?_
  refine lw_cv (as := []) (k0 := 0) (rest := []) hcf hK hsta hA (pr_clear t M hv) rm_L_19 (ci := 7) rfl (T1 := TX7) (N1 := 7) rfl (fun v hv => by cases hv) oM hP hD hS ⟨Nat.le_of_ble_eq_true rfl, Nat.le_of_ble_eq_true rfl⟩ hcs (Nat.zero_le _) hl.1 dL_law_137 (fun r M1 H1 locs1 hq oM1 or1 hP1 hD1 hS1 => ?_)
  refine lv_aload_n hx hb dL_law_140 rfl (lv_at hl 2 rfl) ?_
  refine lw_cv (as := []) (k0 := 32) (rest := (r.map (ra_cv ad)).toList ++ []) hcf hK hsta hA hq rm_L_22 (ci := 8) rfl (T1 := TX8) (N1 := 35) rfl (fun v hv => by cases hv) oM1 hP1 hD1 hS1 ⟨Nat.le_of_ble_eq_true rfl, Nat.le_of_ble_eq_true rfl⟩ hcs (lw_sum ad r) hl.1 dL_law_141 (fun r2 M2 H2 locs2 hq2 oM2 or2 hP2 hD2 hS2 => ?_)
  obtain ⟨rfl, rfl, hI2⟩ := hq2
  exact lv_goto hx hb dL_law_144 (tgt := 739) rfl (kk M2 H2 locs2 hI2 ⟨oM2, hP2, hD2, hS2⟩)
end LAW
