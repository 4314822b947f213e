theorem ra_nand (a b : Nat) : Int32.ofInt (a : Int) &&& Int32.ofInt (b : Int) = Int32.ofInt ((a &&& b : Nat) : Int) := by
  rw [Int32.ofInt_eq_ofNat, Int32.ofInt_eq_ofNat, Int32.ofInt_eq_ofNat]
  apply Int32.toBitVec_inj.1
  show BitVec.ofNat 32 a &&& BitVec.ofNat 32 b = BitVec.ofNat 32 (a &&& b)
  apply BitVec.eq_of_getLsbD_eq
  intro i hi
  simp [BitVec.getLsbD_ofNat, hi]
theorem ra_nor (a b : Nat) : Int32.ofInt (a : Int) ||| Int32.ofInt (b : Int) = Int32.ofInt ((a ||| b : Nat) : Int) := by
  rw [Int32.ofInt_eq_ofNat, Int32.ofInt_eq_ofNat, Int32.ofInt_eq_ofNat]
  apply Int32.toBitVec_inj.1
  show BitVec.ofNat 32 a ||| BitVec.ofNat 32 b = BitVec.ofNat 32 (a ||| b)
  apply BitVec.eq_of_getLsbD_eq
  intro i hi
  simp [BitVec.getLsbD_ofNat, hi]
theorem ra_shc : ∀ n : Nat, n < 32 → ((Int32.ofNat n &&& 31).toBitVec.smod 32).toNat = n := by decide
theorem ra_nshl (a b : Nat) (hb : b < 31) (h : a * 2 ^ b < 2147483648) : Int32.ofInt (a : Int) <<< (Int32.ofInt (b : Int) &&& 31) = Int32.ofInt ((a * 2 ^ b : Nat) : Int) := by
  rw [Int32.ofInt_eq_ofNat, Int32.ofInt_eq_ofNat, Int32.ofInt_eq_ofNat]
  exact pk_shlN _ b (ra_shc b (by omega)) (by omega)
theorem ra_nshr (a b : Nat) (hb : b < 31) (h : a < 2147483648) : Int32.ofInt (a : Int) >>> (Int32.ofInt (b : Int) &&& 31) = Int32.ofInt ((a / 2 ^ b : Nat) : Int) := by
  rw [Int32.ofInt_eq_ofNat, Int32.ofInt_eq_ofNat, Int32.ofInt_eq_ofNat]
  exact pk_shrN (by omega) _ b (ra_shc b (by omega))
theorem ra_in_and {a b : Nat} (ha : in32 (a : Int)) : in32 ((a &&& b : Nat) : Int) := by
  have := Nat.and_le_left (n := a) (m := b)
  unfold in32 at *
  omega
theorem ra_in_or {a b : Nat} (ha : in32 (a : Int)) (hb : in32 (b : Int)) : in32 ((a ||| b : Nat) : Int) := by
  unfold in32 at *
  have := Nat.or_lt_two_pow (x := a) (y := b) (n := 31) (by omega) (by omega)
  omega
theorem ra_in_fc (z : Int) : in32 (ra_fc z) := by
  unfold ra_fc in32
  repeat' split
  all_goals omega
theorem ra_fs_get {ad : Nat → Nat} {ks : List Nat} {f : Int → Int} {j kd : Nat} (h : ks[j]? = some kd) : ((List.range ks.length).map (fun j => ra_fv ad (ks.getD j 0) (f (j : Nat))))[j]? = some (ra_fv ad kd (f (j : Nat))) := by
  have hj : j < ks.length := (List.getElem?_eq_some_iff.mp h).1
  simp [List.getElem?_map, List.getElem?_range hj, h]
theorem ra_fs_set {ad : Nat → Nat} {ks : List Nat} {M : ra_M} {k0 : Nat} {j kd : Nat} {z : Int} (h : ks[j]? = some kd) (hk : kd ≤ 1) : ((List.range ks.length).map (fun j => ra_fv ad (ks.getD j 0) (M k0 (j : Nat)))).set j (.int (Int32.ofInt z)) = (List.range ks.length).map (fun i => ra_fv ad (ks.getD i 0) (up M k0 j z k0 (i : Nat))) := by
  have hj : j < ks.length := (List.getElem?_eq_some_iff.mp h).1
  apply List.ext_getElem?
  intro i
  by_cases hi : i = j
  · subst hi
    rw [List.getElem?_set_self (by simpa using hj)]
    simp [List.getElem?_map, List.getElem?_range hj, h, up, ra_fv, ra_fa, hk, ra_cv]
  · rw [List.getElem?_set_ne (fun q => hi q.symm)]
    by_cases hl : i < ks.length
    · have hne : ¬ ((i : Int) = (j : Int)) := by omega
      simp [List.getElem?_map, List.getElem?_range hl, up, hne]
    · rw [List.getElem?_eq_none (by simpa using hl), List.getElem?_eq_none (by simpa using hl)]
theorem ra_ok_fa {M : ra_M} (h : ra_okM M) (kd k : Nat) (j : Int) : ra_okV (ra_fa kd (M k j)) := by
  unfold ra_fa
  split
  · exact h k j
  · trivial
theorem ra_arr_set {cA : ClassId} {ad : Nat → Nat} {M : ra_M} {k n : Nat} {y z : Int} (hz : in32 z) (h0 : 0 ≤ z) : (Sum.inl (cA, n, .inl (upd (fun i : Nat => Int32.ofInt (M k (i : Nat))) (Int32.ofInt z).toNatClampNeg (Int32.ofInt y))) : va_E) = ra_cel cA ad (.inl n) (up M k z y k) := by
  unfold ra_cel
  simp only
  congr 4
  funext i
  have hc := ra_cl hz h0
  by_cases hi : i = (Int32.ofInt z).toNatClampNeg
  · subst hi
    rw [hc]
    simp [upd, up]
  · have hne : ¬ ((i : Int) = z) := by omega
    simp [upd, up, hi, hne]
theorem ra_weak_get : ∀ {L L2 : ra_L}, ra_weak L L2 → L.length = L2.length ∧ ∀ (i : Nat) (v : ra_V), L2[i]? = some (some v) → L[i]? = some (some v) := by
  intro L
  induction L with
  | nil =>
    intro L2 h
    cases L2 with
    | nil => exact ⟨rfl, fun i v h => h⟩
    | cons b l2 => exact h.elim
  | cons a l ih =>
    intro L2 h
    cases L2 with
    | nil => exact h.elim
    | cons b l2 =>
      obtain ⟨h1, h2⟩ := h
      obtain ⟨g1, g2⟩ := ih h2
      refine ⟨by simp [g1], fun i v hv => ?_⟩
      cases i with
      | zero =>
        simp at hv
        rcases h1 with h1 | h1
        · simp [← h1, hv]
        · rw [h1] at hv; cases hv
      | succ i =>
        simp only [List.getElem?_cons_succ] at hv ⊢
        exact g2 i v hv
theorem ra_weak_okL {L L2 : ra_L} (h : ra_weak L L2) (o : ra_okL L) : ra_okL L2 := fun i v hv => o i v ((ra_weak_get h).2 i v hv)
theorem ra_weak_has {ad : Nat → Nat} {ls : Array Slot} {nL : Nat} {L L2 : ra_L} (h : ra_weak L L2) (o : ra_has ad ls nL L) : ra_has ad ls nL L2 := ⟨o.1, o.2.1, by rw [← (ra_weak_get h).1]; exact o.2.2.1, fun i v hv => o.2.2.2 i v ((ra_weak_get h).2 i v hv)⟩
section RA
variable {p : Program} {l : Launch} {e : Env} {R : Room} {s : State} {m : MethodId} {args : Array Value} {below : List Frame} {meth : Method} {c : Code} {QF : State → Prop} {D : va_G} {cA : ClassId} {ad : Nat → Nat} {A : Nat → Prop}
/-- behind a call -/
theorem ra_call {H : Heap} {locs : List Loc} {pc : Nat} {ls : Array Slot} {rest st0 : List Value} {a : Array Value} {A1 : Nat → Prop} {Q : Option ra_V → ra_M → Prop}
    (hr : va_Run p l e R s m args below meth c H locs 0 0 0 0 (F0 m pc ls st0) rest (ra_Qc D cA ad Q A1 a) A1) (hS : va_S A s.heap H locs) (hA : ∀ q, A1 q → A q)
    (kk : ∀ (r : Option ra_V) (M : ra_M) (H1 : Heap) (locs1 : List Loc), Q r M → ra_okM M → (∀ v, r = some v → ra_okV v) → va_P D vwCl (ra_w cA ad M) H1 → va_S A s.heap H1 locs1 → W p l e R s m args below meth c H1 locs1 0 0 QF (F0 m (pc + 3) ls ((r.map (ra_cv ad)).toList ++ rest))) :
    W p l e R s m args below meth c H locs 0 0 QF (F0 m pc ls st0) := by
  intro T hT X
  obtain ⟨v, st₀, t, T', L, h0, X', hL, e1, e2, ⟨⟨r, M, hv, hq, hM, hok, hp⟩, hz, hk⟩, st⟩ := hr T hT X
  have hv' : v = r.map (ra_cv ad) := by cases hv; rfl
  subst hv'
  rw [h0] at hz hk
  obtain ⟨t2, a1, b1⟩ := kk r M T'.heap (locs ++ L) hq hM hok (by rw [e1]; exact hp)
    ⟨Nat.le_trans hS.1 (by rw [e1]; exact hz), fun q h1 h2 => by rw [e1, hk q (Nat.lt_of_lt_of_le h1 hS.1) (fun z => h2 (hA q z))]; exact hS.2.1 q h1 h2, fun q hq => by
      rcases List.mem_append.mp hq with h | h
      · exact hS.2.2 q h
      · exact hA _ (hL q h)⟩ T' rfl X'
  exact ⟨t2, st t2 a1, b1⟩
theorem ra_pre {H : Heap} {locs : List Loc} {as : List ra_V} {M : ra_M} (hK : va_K D vwCl [(cA, .int)] s) (hsta : ra_sta ad A s s.heap) (hAe : ∀ (M : ra_M) (sz q : Nat), s.heap.size ≤ sz → va_A (ra_w cA ad M) sz q → A q) (hP : va_P D vwCl (ra_w cA ad M) H) (hD : va_D A (ra_w cA ad M)) (hS : va_S A s.heap H locs) :
    ∀ U : State, U.heap = H → s.WarmedH U.vm → ra_Pc D cA ad as M H.size (as.map (ra_cv ad)).toArray U := by
  intro U hU hW
  obtain ⟨hZ, hT, hN⟩ := hsta
  have hsub : ∀ q, va_A (ra_w cA ad M) H.size q → A q := fun q h => hAe M H.size q hS.1 h
  refine ⟨rfl, by rw [hU], by rw [hU]; exact hP, va_K.moved hW.alike hK, hD.weaken (fun _ _ _ _ => trivial), ?_, ?_, va_Nw.warmF hW hN⟩
  · rw [hU]
    exact ((hZ.kept hS.2.1).moved hW.alike).narrow hsub
  · rw [hU]
    exact ((hT.kept hS.2.1).moved hW.alike).narrow hsub
theorem ra_catsum (ad : Nat → Nat) : ∀ st : List ra_V, ((st.map (ra_cv ad)).map fun v => v.category).sum ≤ 2 * st.length := by
  intro st
  induction st with
  | nil => simp
  | cons v st ih =>
    have := ra_cat ad v
    have h2 : (ra_cv ad v).category ≤ 2 := by rw [this]; split <;> omega
    simp only [List.map_cons, List.sum_cons, List.length_cons]
    omega
set_option maxHeartbeats 4000000 in
set_option maxRecDepth 100000 in
theorem ra_step {C : Nat → List ra_V → ra_M → (Option ra_V → ra_M → Prop) → Prop} {mi d : Nat} {Q : Option ra_V → ra_M → Prop} {Qc : Array Value → State → Outcome → State → Prop} (X : ra_X p s m args meth c D cA ad A mi)
    (hR : d + 1 ≤ R.frames ∧ 34 * d + 34 ≤ R.locals) (hAe : ∀ (M : ra_M) (sz q : Nat), s.heap.size ≤ sz → va_A (ra_w cA ad M) sz q → A q)
    (hcall : ∀ (mj : Nat) (as : List ra_V) (M : ra_M) (Q' : Option ra_V → ra_M → Prop), C mj as M Q' → ra_ok mj → (∀ v ∈ as, ra_okV v) → ra_okM M → ∀ sz : Nat, Met l (mY mj) (mW mj) (ra_rm d) (ra_Pc D cA ad as M sz) (ra_Qc D cA ad Q' (va_A (ra_w cA ad M) sz)) 0 0 (va_A (ra_w cA ad M) sz))
    (hret : ∀ (r : Option ra_V) (M : ra_M) (H : Heap) (locs : List Loc), Q r M → ra_okM M → (∀ v, r = some v → ra_okV v) → va_P D vwCl (ra_w cA ad M) H → va_S A s.heap H locs → ∀ t : State, t.heap = H → s.WarmedH t.vm → Qc args s (.returned (r.map (ra_cv ad))) t) :
    ra_Clo C mi (mB mi) Q (ra_KW p l e R s m args below meth c (MQ below Qc args s 0 0 A) D cA ad A (mX mi)) := by
  obtain ⟨hx, hb, hml, hr, hlocks, hown, hts, hK, hsta⟩ := X
  refine ⟨?_, fun pc L L2 St M hw hk H locs ls oL oS oM hl hP hD hS => hk H locs ls (ra_weak_okL hw oL) oS oM (ra_weak_has hw hl) hP hD hS⟩
  intro pc L St M i len hd h H locs ls oL oS oM hl hP hD hS
  unfold ra_stp at h
  split at h
  · obtain ⟨rfl, h1, hk⟩ := h
    exact lv_iconst hx hb hd rfl (hk H locs ls oL (ra_okS_c.mpr ⟨h1, oS⟩) oM hl hP hD hS)
  · obtain ⟨rfl, h1, hk⟩ := h
    exact lv_bipush hx hb hd (ra_b8 h1) (hk H locs ls oL (ra_okS_c.mpr ⟨⟨by omega, by omega⟩, oS⟩) oM hl hP hD hS)
  · obtain ⟨rfl, h1, hk⟩ := h
    exact lv_sipush hx hb hd (ra_b16 h1) (hk H locs ls oL (ra_okS_c.mpr ⟨⟨by omega, by omega⟩, oS⟩) oM hl hP hD hS)
  · rename_i n
    obtain ⟨rfl, hk⟩ := h
    exact lv_lconst hx hb hd Int64.ofInt_eq_ofNat.symm (hk H locs ls oL (ra_okS_c.mpr ⟨⟨by omega, by omega⟩, oS⟩) oM hl hP hD hS)
  · obtain ⟨rfl, z, h1, hk⟩ := h
    exact lv_ldc hx hb hown (hts _ h1.1) hd (hk H locs ls oL (ra_okS_c.mpr ⟨h1.2, oS⟩) oM hl hP hD hS)
  · obtain ⟨rfl, z, h1, hk⟩ := h
    exact lv_ldc2 hx hb hown (hts _ h1.1) hd (hk H locs ls oL (ra_okS_c.mpr ⟨h1.2, oS⟩) oM hl hP hD hS)
  · obtain ⟨rfl, z, h1, hk⟩ := h
    exact lv_iload_n hx hb hd rfl (hl.2.2.2 _ _ h1) (hk H locs ls oL (ra_okS_c.mpr ⟨oL _ _ h1, oS⟩) oM hl hP hD hS)
  · obtain ⟨rfl, z, h1, hk⟩ := h
    exact lv_iload hx hb hd (hl.2.2.2 _ _ h1) (hk H locs ls oL (ra_okS_c.mpr ⟨oL _ _ h1, oS⟩) oM hl hP hD hS)
  · obtain ⟨rfl, z, h1, hk⟩ := h
    exact lv_lload_n hx hb hd rfl (hl.2.2.2 _ _ h1) (hk H locs ls oL (ra_okS_c.mpr ⟨oL _ _ h1, oS⟩) oM hl hP hD hS)
  · obtain ⟨rfl, z, h1, hk⟩ := h
    exact lv_lload hx hb hd (hl.2.2.2 _ _ h1) (hk H locs ls oL (ra_okS_c.mpr ⟨oL _ _ h1, oS⟩) oM hl hP hD hS)
  · obtain ⟨rfl, z, h1, hk⟩ := h
    exact lv_aload_n hx hb hd rfl (hl.2.2.2 _ _ h1) (hk H locs ls oL (ra_okS_c.mpr ⟨oL _ _ h1, oS⟩) oM hl hP hD hS)
  · obtain ⟨rfl, z, h1, hk⟩ := h
    exact lv_aload hx hb hd (hl.2.2.2 _ _ h1) (hk H locs ls oL (ra_okS_c.mpr ⟨oL _ _ h1, oS⟩) oM hl hP hD hS)
  · obtain ⟨rfl, z, st, rfl, h1, hk⟩ := h
    obtain ⟨oz, os⟩ := ra_okS_c.mp oS
    exact lv_istore_n hx hb hd rfl hl.en (by rw [hl.2.2.1] at h1; exact h1) rfl (fun ls9 hl9 => hk H locs ls9 (ra_okL_st oL oz) os oM (ra_has.st hl.2.2.1 hl9) hP hD hS)
  · obtain ⟨rfl, z, st, rfl, h1, hk⟩ := h
    obtain ⟨oz, os⟩ := ra_okS_c.mp oS
    exact lv_istore hx hb hd hl.en (by rw [hl.2.2.1] at h1; exact h1) rfl (fun ls9 hl9 => hk H locs ls9 (ra_okL_st oL oz) os oM (ra_has.st hl.2.2.1 hl9) hP hD hS)
  · obtain ⟨rfl, z, st, rfl, h1, hk⟩ := h
    obtain ⟨oz, os⟩ := ra_okS_c.mp oS
    exact lv_lstore_n hx hb hd rfl hl.en (by rw [hl.2.2.1] at h1; exact h1) rfl (fun ls9 hl9 => hk H locs ls9 (ra_okL_st2 oL oz) os oM (ra_has.st2 hl.2.2.1 hl9) hP hD hS)
  · obtain ⟨rfl, z, st, rfl, h1, hk⟩ := h
    obtain ⟨oz, os⟩ := ra_okS_c.mp oS
    exact lv_lstore hx hb hd hl.en (by rw [hl.2.2.1] at h1; exact h1) rfl (fun ls9 hl9 => hk H locs ls9 (ra_okL_st2 oL oz) os oM (ra_has.st2 hl.2.2.1 hl9) hP hD hS)
  · obtain ⟨rfl, z, h1, h2, hk⟩ := h
    obtain ⟨k9, hk9⟩ := List.getElem?_of_mem (ra_en_in (ad := ad) h1)
    exact lv_iinc hx hb hd hl.en hk9 (Int32.ofInt_add _ _).symm (by rw [← hl.2.2.1]; exact (List.getElem?_eq_some_iff.mp h1).1) rfl (fun ls9 hl9 => hk H locs ls9 (ra_okL_st oL h2) oS oM (ra_has.st hl.2.2.1 hl9) hP hD hS)
  · obtain ⟨rfl, a, b, st, rfl, h1, hk⟩ := h
    obtain ⟨ob, os⟩ := ra_okS_c.mp oS
    obtain ⟨oa, os⟩ := ra_okS_c.mp os
    refine lv_iadd hx hb hd ?_
    rw [← Int32.ofInt_add]
    exact hk H locs ls oL (ra_okS_c.mpr ⟨h1, os⟩) oM hl hP hD hS
  · obtain ⟨rfl, a, b, st, rfl, h1, hk⟩ := h
    obtain ⟨ob, os⟩ := ra_okS_c.mp oS
    obtain ⟨oa, os⟩ := ra_okS_c.mp os
    refine lv_isub hx hb hd ?_
    rw [← Int32.ofInt_sub]
    exact hk H locs ls oL (ra_okS_c.mpr ⟨h1, os⟩) oM hl hP hD hS
  · obtain ⟨rfl, a, b, st, rfl, h1, hk⟩ := h
    obtain ⟨ob, os⟩ := ra_okS_c.mp oS
    obtain ⟨oa, os⟩ := ra_okS_c.mp os
    refine lv_imul hx hb hd ?_
    rw [← Int32.ofInt_mul]
    exact hk H locs ls oL (ra_okS_c.mpr ⟨h1, os⟩) oM hl hP hD hS
  · obtain ⟨rfl, a, st, rfl, h1, hk⟩ := h
    obtain ⟨oa, os⟩ := ra_okS_c.mp oS
    refine lv_ineg hx hb hd ?_
    rw [← Int32.ofInt_neg]
    exact hk H locs ls oL (ra_okS_c.mpr ⟨h1, os⟩) oM hl hP hD hS
  · obtain ⟨rfl, a, b, st, rfl, h0, h1, hk⟩ := h
    obtain ⟨ob, os⟩ := ra_okS_c.mp oS
    obtain ⟨oa, os⟩ := ra_okS_c.mp os
    refine lv_idiv hx hb hd (fun q => h0 ((ra_eq0 ob).mp q)) ?_
    rw [ra_div oa ob h1]
    exact hk H locs ls oL (ra_okS_c.mpr ⟨h1, os⟩) oM hl hP hD hS
  · obtain ⟨rfl, a, b, st, rfl, h0, h1, hk⟩ := h
    obtain ⟨ob, os⟩ := ra_okS_c.mp oS
    obtain ⟨oa, os⟩ := ra_okS_c.mp os
    refine lv_irem hx hb hd (fun q => h0 ((ra_eq0 ob).mp q)) ?_
    rw [ra_rem oa ob h1]
    exact hk H locs ls oL (ra_okS_c.mpr ⟨h1, os⟩) oM hl hP hD hS
  · obtain ⟨rfl, a, b, st, rfl, hk⟩ := h
    obtain ⟨ob, os⟩ := ra_okS_c.mp oS
    obtain ⟨oa, os⟩ := ra_okS_c.mp os
    refine lv_iand hx hb hd ?_
    rw [ra_nand]
    exact hk H locs ls oL (ra_okS_c.mpr ⟨ra_in_and oa, os⟩) oM hl hP hD hS
  · obtain ⟨rfl, a, b, st, rfl, hk⟩ := h
    obtain ⟨ob, os⟩ := ra_okS_c.mp oS
    obtain ⟨oa, os⟩ := ra_okS_c.mp os
    refine lv_ior hx hb hd ?_
    rw [ra_nor]
    exact hk H locs ls oL (ra_okS_c.mpr ⟨ra_in_or oa ob, os⟩) oM hl hP hD hS
  · obtain ⟨rfl, a, b, st, rfl, h1, h2, hk⟩ := h
    obtain ⟨ob, os⟩ := ra_okS_c.mp oS
    obtain ⟨oa, os⟩ := ra_okS_c.mp os
    refine lv_ishl hx hb hd ?_
    rw [ra_nshl a b h1 h2]
    exact hk H locs ls oL (ra_okS_c.mpr ⟨⟨by omega, by omega⟩, os⟩) oM hl hP hD hS
  · obtain ⟨rfl, a, b, st, rfl, h1, hk⟩ := h
    obtain ⟨ob, os⟩ := ra_okS_c.mp oS
    obtain ⟨oa, os⟩ := ra_okS_c.mp os
    have ha : a < 2147483648 := by have := oa.2; omega
    have hq := Nat.div_le_self a (2 ^ b)
    have hin : in32 ((a / 2 ^ b : Nat) : Int) := by
      generalize a / 2 ^ b = w at hq
      exact ⟨by omega, by omega⟩
    refine lv_ishr hx hb hd ?_
    rw [ra_nshr a b h1 ha]
    exact hk H locs ls oL (ra_okS_c.mpr ⟨hin, os⟩) oM hl hP hD hS
  · obtain ⟨rfl, a, st, rfl, hk⟩ := h
    obtain ⟨oa, os⟩ := ra_okS_c.mp oS
    refine lv_i2l hx hb hd (v := Int64.ofInt a) (Int64.toInt_inj.mp ?_) (hk H locs ls oL (ra_okS_c.mpr ⟨⟨by have := oa.1; omega, by have := oa.2; omega⟩, os⟩) oM hl hP hD hS)
    rw [Int32.toInt_toInt64, ra_ti oa, ra_tj ⟨by have := oa.1; omega, by have := oa.2; omega⟩]
  · obtain ⟨rfl, a, b, st, rfl, h1, hk⟩ := h
    obtain ⟨ob, os⟩ := ra_okS_c.mp oS
    obtain ⟨oa, os⟩ := ra_okS_c.mp os
    refine lv_ladd hx hb hd ?_
    rw [← Int64.ofInt_add]
    exact hk H locs ls oL (ra_okS_c.mpr ⟨h1, os⟩) oM hl hP hD hS
  · obtain ⟨rfl, a, b, st, rfl, h1, hk⟩ := h
    obtain ⟨ob, os⟩ := ra_okS_c.mp oS
    obtain ⟨oa, os⟩ := ra_okS_c.mp os
    refine lv_lsub hx hb hd ?_
    rw [← Int64.ofInt_sub]
    exact hk H locs ls oL (ra_okS_c.mpr ⟨h1, os⟩) oM hl hP hD hS
  · obtain ⟨rfl, a, b, st, rfl, h1, hk⟩ := h
    obtain ⟨ob, os⟩ := ra_okS_c.mp oS
    obtain ⟨oa, os⟩ := ra_okS_c.mp os
    refine lv_lmul hx hb hd ?_
    rw [← Int64.ofInt_mul]
    exact hk H locs ls oL (ra_okS_c.mpr ⟨h1, os⟩) oM hl hP hD hS
  · obtain ⟨rfl, a, b, st, rfl, h0, h1, hk⟩ := h
    obtain ⟨ob, os⟩ := ra_okS_c.mp oS
    obtain ⟨oa, os⟩ := ra_okS_c.mp os
    refine lv_ldiv hx hb hd (fun q => h0 ?_) ?_
    · have e9 : (Int64.ofInt b).toInt = 0 := by rw [q]; rfl
      rwa [ra_tj ob] at e9
    · rw [ra_divJ oa ob h1]
      exact hk H locs ls oL (ra_okS_c.mpr ⟨h1, os⟩) oM hl hP hD hS
  · obtain ⟨rfl, a, b, st, rfl, hk⟩ := h
    obtain ⟨ob, os⟩ := ra_okS_c.mp oS
    obtain ⟨oa, os⟩ := ra_okS_c.mp os
    obtain ⟨z, z1, z2, z3⟩ := ra_xor oa ob
    refine lv_lxor hx hb hd ?_
    rw [z3]
    exact hk z z1 z2 H locs ls oL (ra_okS_c.mpr ⟨z1, os⟩) oM hl hP hD hS
  · obtain ⟨rfl, a, b, st, rfl, hk⟩ := h
    obtain ⟨ob, os⟩ := ra_okS_c.mp oS
    obtain ⟨oa, os⟩ := ra_okS_c.mp os
    refine W.lcmp hx hb hd ?_
    rw [ra_cmpJ oa ob]
    exact hk H locs ls oL (ra_okS_c.mpr ⟨by show in32 _; unfold in32; repeat' split <;> omega, os⟩) oM hl hP hD hS
  · obtain ⟨rfl, v, st, rfl, h1, hk⟩ := h
    obtain ⟨ov, os⟩ := ra_okS_c.mp oS
    exact lv_dup hx hb hd (by rw [ra_cat, h1]; rfl) (hk H locs ls oL (ra_okS_c.mpr ⟨ov, oS⟩) oM hl hP hD hS)
  · obtain ⟨rfl, v, w, st, rfl, h1, h2, hk⟩ := h
    obtain ⟨ov, os⟩ := ra_okS_c.mp oS
    obtain ⟨ow, os⟩ := ra_okS_c.mp os
    exact lv_dup2_11 hx hb hd (by rw [ra_cat, h1]; rfl) (by rw [ra_cat, h2]; rfl) (hk H locs ls oL (ra_okS_c.mpr ⟨ov, ra_okS_c.mpr ⟨ow, oS⟩⟩) oM hl hP hD hS)
  · obtain ⟨rfl, v, st, rfl, h1, hk⟩ := h
    obtain ⟨ov, os⟩ := ra_okS_c.mp oS
    exact lv_pop hx hb hd (by rw [ra_cat, h1]; rfl) (hk H locs ls oL os oM hl hP hD hS)
  · obtain ⟨rfl, z, st, tgt, rfl, ht, k1, k2⟩ := h
    obtain ⟨oz, os⟩ := ra_okS_c.mp oS
    exact lv_if_eq hx hb hd ht (fun q => k1 ((ra_eq0 oz).mp q) H locs ls oL os oM hl hP hD hS) (fun q => k2 (fun q2 => q ((ra_eq0 oz).mpr q2)) H locs ls oL os oM hl hP hD hS)
  · obtain ⟨rfl, z, st, tgt, rfl, ht, k1, k2⟩ := h
    obtain ⟨oz, os⟩ := ra_okS_c.mp oS
    exact lv_if_ne hx hb hd ht (fun q => k1 (fun q2 => q ((ra_eq0 oz).mpr q2)) H locs ls oL os oM hl hP hD hS) (fun q => k2 ((ra_eq0 oz).mp q) H locs ls oL os oM hl hP hD hS)
  · obtain ⟨rfl, z, st, tgt, rfl, ht, k1, k2⟩ := h
    obtain ⟨oz, os⟩ := ra_okS_c.mp oS
    exact lv_if_lt hx hb hd ht (fun q => k1 ((ra_lt0 oz).mp q) H locs ls oL os oM hl hP hD hS) (fun q => k2 (fun q2 => q ((ra_lt0 oz).mpr q2)) H locs ls oL os oM hl hP hD hS)
  · obtain ⟨rfl, z, st, tgt, rfl, ht, k1, k2⟩ := h
    obtain ⟨oz, os⟩ := ra_okS_c.mp oS
    exact lv_if_ge hx hb hd ht (fun q => k1 ((ra_0le oz).mp q) H locs ls oL os oM hl hP hD hS) (fun q => k2 (fun q2 => q ((ra_0le oz).mpr q2)) H locs ls oL os oM hl hP hD hS)
  · obtain ⟨rfl, z, st, tgt, rfl, ht, k1, k2⟩ := h
    obtain ⟨oz, os⟩ := ra_okS_c.mp oS
    exact lv_if_gt hx hb hd ht (fun q => k1 ((ra_0lt oz).mp q) H locs ls oL os oM hl hP hD hS) (fun q => k2 (fun q2 => q ((ra_0lt oz).mpr q2)) H locs ls oL os oM hl hP hD hS)
  · obtain ⟨rfl, z, st, tgt, rfl, ht, k1, k2⟩ := h
    obtain ⟨oz, os⟩ := ra_okS_c.mp oS
    exact lv_if_le hx hb hd ht (fun q => k1 ((ra_le0 oz).mp q) H locs ls oL os oM hl hP hD hS) (fun q => k2 (fun q2 => q ((ra_le0 oz).mpr q2)) H locs ls oL os oM hl hP hD hS)
  · obtain ⟨rfl, a, b, st, tgt, rfl, ht, k1, k2⟩ := h
    obtain ⟨ob, os⟩ := ra_okS_c.mp oS
    obtain ⟨oa, os⟩ := ra_okS_c.mp os
    exact lv_icmp_eq hx hb hd ht (fun q => k1 ((ra_eq oa ob).mp q) H locs ls oL os oM hl hP hD hS) (fun q => k2 (fun q2 => q ((ra_eq oa ob).mpr q2)) H locs ls oL os oM hl hP hD hS)
  · obtain ⟨rfl, a, b, st, tgt, rfl, ht, k1, k2⟩ := h
    obtain ⟨ob, os⟩ := ra_okS_c.mp oS
    obtain ⟨oa, os⟩ := ra_okS_c.mp os
    exact lv_icmp_ne hx hb hd ht (fun q => k1 (fun q2 => q ((ra_eq oa ob).mpr q2)) H locs ls oL os oM hl hP hD hS) (fun q => k2 ((ra_eq oa ob).mp q) H locs ls oL os oM hl hP hD hS)
  · obtain ⟨rfl, a, b, st, tgt, rfl, ht, k1, k2⟩ := h
    obtain ⟨ob, os⟩ := ra_okS_c.mp oS
    obtain ⟨oa, os⟩ := ra_okS_c.mp os
    exact lv_icmp_lt hx hb hd ht (fun q => k1 ((ra_lt oa ob).mp q) H locs ls oL os oM hl hP hD hS) (fun q => k2 (fun q2 => q ((ra_lt oa ob).mpr q2)) H locs ls oL os oM hl hP hD hS)
  · obtain ⟨rfl, a, b, st, tgt, rfl, ht, k1, k2⟩ := h
    obtain ⟨ob, os⟩ := ra_okS_c.mp oS
    obtain ⟨oa, os⟩ := ra_okS_c.mp os
    exact lv_icmp_ge hx hb hd ht (fun q => k1 ((ra_le ob oa).mp q) H locs ls oL os oM hl hP hD hS) (fun q => k2 (fun q2 => q ((ra_le ob oa).mpr q2)) H locs ls oL os oM hl hP hD hS)
  · obtain ⟨rfl, a, b, st, tgt, rfl, ht, k1, k2⟩ := h
    obtain ⟨ob, os⟩ := ra_okS_c.mp oS
    obtain ⟨oa, os⟩ := ra_okS_c.mp os
    exact lv_icmp_gt hx hb hd ht (fun q => k1 ((ra_lt ob oa).mp q) H locs ls oL os oM hl hP hD hS) (fun q => k2 (fun q2 => q ((ra_lt ob oa).mpr q2)) H locs ls oL os oM hl hP hD hS)
  · obtain ⟨rfl, a, b, st, tgt, rfl, ht, k1, k2⟩ := h
    obtain ⟨ob, os⟩ := ra_okS_c.mp oS
    obtain ⟨oa, os⟩ := ra_okS_c.mp os
    exact lv_icmp_le hx hb hd ht (fun q => k1 ((ra_le oa ob).mp q) H locs ls oL os oM hl hP hD hS) (fun q => k2 (fun q2 => q ((ra_le oa ob).mpr q2)) H locs ls oL os oM hl hP hD hS)
  · obtain ⟨rfl, tgt, ht, hk⟩ := h
    exact lv_goto hx hb hd ht (hk H locs ls oL oS oM hl hP hD hS)
  · rename_i dflt lo hi offs
    obtain ⟨z, st, rfl, k1, k2⟩ := h
    obtain ⟨oz, os⟩ := ra_okS_c.mp oS
    have ez := ra_ti oz
    by_cases hc : z < lo ∨ hi < z
    · obtain ⟨tgt, ht, hk⟩ := k1 hc
      exact lv_tableOut hx hb hd (by rw [ez]; exact hc) ht (hk H locs ls oL os oM hl hP hD hS)
    · obtain ⟨off, tgt, ho, ht, hk⟩ := k2 hc
      exact lv_tableIn hx hb hd (by rw [ez]; exact fun q => hc (Or.inl q)) (by rw [ez]; exact fun q => hc (Or.inr q)) (by rw [ez]; exact ho) ht (hk H locs ls oL os oM hl hP hD hS)
  · obtain ⟨rfl, k0, st, ci, ks, j, kd, rfl, hF, hsh, hkd, hk⟩ := h
    obtain ⟨ok0, os⟩ := ra_okS_c.mp oS
    obtain ⟨C1, T1, N1, hc, hj, hT1, hlk⟩ := hF
    exact va_get (D := D) (ci := ci) (C := C1) (T := T1) (N := N1) hx hb hts (ra_clsfacts ci C1 T1 N1 hc).1 hown hK hP k0 (ra_w_get hsh) hc j hj (hts _ hlk) (fun x9 q => by rw [hT1] at q; exact q) (ra_fs_get hkd) hd (hk H locs ls oL (ra_okS_c.mpr ⟨ra_ok_fa oM _ _ _, os⟩) oM hl hP hD hS)
  · obtain ⟨rfl, z, k0, st, ci, ks, j, kd, rfl, hF, hsh, hkd, hkz, hk⟩ := h
    obtain ⟨oz, os⟩ := ra_okS_c.mp oS
    obtain ⟨ok0, os⟩ := ra_okS_c.mp os
    obtain ⟨C1, T1, N1, hc, hj, hT1, hlk, hfin, hpd⟩ := hF
    obtain ⟨hin9, ty9, hty9, hnm9⟩ := ra_clsfacts ci C1 T1 N1 hc
    have hk1 : kd ≤ 1 := by omega
    refine va_put (D := D) (ci := ci) (C := C1) (T := T1) (N := N1) (ty := if kd = 0 then .int else .boolean) (v := .int (Int32.ofInt z)) hx hb hts hin9 ty9 hty9 hnm9 hown hK hP hD hS k0 (ra_w_get hsh) hc j hj (hts _ hlk) (fun x9 q => by rw [hT1] at q; exact q) hfin hpd ?_ ?_ ?_ hd (fun H1 locs1 hP1 hD1 hS1 => ?_)
    · rcases hkz with q | ⟨q, q2 | q2⟩
      · rw [if_pos q]; rfl
      · rw [if_neg (by omega), q2]; rfl
      · rw [if_neg (by omega), q2]; rfl
    · rcases hkz with q | ⟨q, q2 | q2⟩
      · rw [if_pos q]; rfl
      · rw [if_neg (by omega), q2]; rfl
      · rw [if_neg (by omega), q2]; rfl
    · simpa using (List.getElem?_eq_some_iff.mp hkd).1
    · have e9 := ra_w_set (cA := cA) (ad := ad) (M := M) (j := (j : Int)) (z := z) hsh (e := .inr (ci, ((List.range ks.length).map (fun j => ra_fv ad (ks.getD j 0) (M k0 (j : Nat)))).set j (.int (Int32.ofInt z)))) (by rw [ra_fs_set hkd hk1]; rfl)
      have hP2 : va_P D vwCl (ra_w cA ad (up M k0 j z)) H1 := by rw [← e9]; exact hP1
      exact hk H1 locs1 ls oL os (ra_okM_up oM _ _ oz) hl hP2 (ra_D_any hD) hS1
  · obtain ⟨rfl, h1, hk⟩ := h
    obtain ⟨hZ, hT, hN⟩ := hsta
    obtain ⟨g1, g2⟩ := h1
    subst g2
    rw [g1] at hown
    exact va_getsN hx hb hZ hS hown (va_Nw.use rfl hN) (fun _ q => q) hd (hk H locs ls oL (ra_okS_c.mpr ⟨trivial, oS⟩) oM hl hP hD hS)
  · obtain ⟨rfl, z, k0, st, rfl, ⟨n, hsh, h0, h1, hk⟩ | ⟨rfl, h0, h1, hk⟩⟩ := h
    · obtain ⟨oz, os⟩ := ra_okS_c.mp oS
      obtain ⟨ok0, os⟩ := ra_okS_c.mp os
      refine va_iald hx hb hK hP k0 0 (ra_w_get hsh) rfl (ra_vin oz h0 h1) hd ?_
      show W p l e R s m args below meth c H locs 0 0 _ (F0 m (pc + 1) ls (.int (Int32.ofInt (M k0 ((Int32.ofInt z).toNatClampNeg : Nat))) :: st.map (ra_cv ad)))
      rw [ra_cl oz h0]
      exact hk H locs ls oL (ra_okS_c.mpr ⟨oM _ _, os⟩) oM hl hP hD hS
    · obtain ⟨oz, os⟩ := ra_okS_c.mp oS
      obtain ⟨ok0, os⟩ := ra_okS_c.mp os
      obtain ⟨hZ, ⟨cell, t1, t2, t3, t4, t5, t6, t7⟩, hN⟩ := hsta
      have hc := ra_cl oz h0
      have hlt : (Int32.ofInt z).toNatClampNeg < 5 := by omega
      refine W.iald (v := .int (Int32.ofInt (ra_fc z))) hx hb (by rw [hS.2.1 _ (Array.getElem?_eq_some_iff.mp t1).1 t7]; exact t1) t2 t3 (fun q => ?_) (by rw [t6 _ hlt, ra_fcv, hc]) rfl rfl hd (hk H locs ls oL (ra_okS_c.mpr ⟨ra_in_fc z, os⟩) oM hl hP hD hS)
      rcases q with q | q
      · exact absurd ((ra_lt0 oz).mp q) (by omega)
      · omega
  · obtain ⟨rfl, y, z, k0, st, n, rfl, hsh, h0, h1, hk⟩ := h
    obtain ⟨oy, os⟩ := ra_okS_c.mp oS
    obtain ⟨oz, os⟩ := ra_okS_c.mp os
    obtain ⟨ok0, os⟩ := ra_okS_c.mp os
    refine va_iast hx hb hK hP hD hS k0 0 (ra_w_get hsh) rfl (ra_vin oz h0 h1) hd (fun H1 locs1 hP1 hD1 hS1 => ?_)
    have e9 := ra_w_set (cA := cA) (ad := ad) (M := M) (j := z) (z := y) hsh (e := .inl (cA, n, .inl (upd (fun i : Nat => Int32.ofInt (M k0 (i : Nat))) (Int32.ofInt z).toNatClampNeg (Int32.ofInt y)))) (ra_arr_set oz h0)
    have hP2 : va_P D vwCl (ra_w cA ad (up M k0 z y)) H1 := by rw [← e9]; exact hP1
    exact hk H1 locs1 ls oL os (ra_okM_up oM _ _ oy) hl hP2 (ra_D_any hD) hS1
  · obtain ⟨rfl, k0, st, rfl, ⟨n, hsh, hk⟩ | ⟨rfl, hk⟩⟩ := h
    · obtain ⟨ok0, os⟩ := ra_okS_c.mp oS
      have hn : in32 (n : Int) := by
        have h9 : SH.all (fun x => match x with | .inl n => decide (n ≤ 10000) | .inr _ => true) = true := by decide +kernel
        have := List.all_eq_true.mp h9 _ (List.mem_of_getElem? hsh)
        have : n ≤ 10000 := by simpa using this
        exact ⟨by omega, by omega⟩
      exact va_alen hx hb hK hP k0 0 (ra_w_get hsh) rfl Int32.ofInt_eq_ofNat.symm hd (hk H locs ls oL (ra_okS_c.mpr ⟨hn, os⟩) oM hl hP hD hS)
    · obtain ⟨ok0, os⟩ := ra_okS_c.mp oS
      obtain ⟨hZ, ⟨cell, t1, t2, t3, t4, t5, t6, t7⟩, hN⟩ := hsta
      exact W.alen (n := 5) hx hb (by rw [hS.2.1 _ (Array.getElem?_eq_some_iff.mp t1).1 t7]; exact t1) t2 t5 rfl rfl hd (hk H locs ls oL (ra_okS_c.mpr ⟨⟨by omega, by omega⟩, os⟩) oM hl hP hD hS)
  · obtain ⟨rfl, mj, as, k0, st, ci, ks, T1, N1, rfl, hcv, hsh, hc, hst, hk⟩ := h
    obtain ⟨hlk, hin, hsel, hpar, hok⟩ := hcv
    have oS2 : (∀ v ∈ as, ra_okV v) ∧ ra_okS st := ⟨fun v hv => oS v (List.mem_append_left _ (List.mem_reverse.mpr hv)), fun v hv => oS v (List.mem_append_right _ (List.mem_cons_of_mem _ hv))⟩
    have hM := hcall mj (vR k0 :: as) M _ hk hok (List.forall_mem_cons.mpr ⟨trivial, oS2.1⟩) oM H.size
    have hcs := ra_catsum ad st
    refine ra_call (va_runV (As := as.map (ra_cv ad)) (rest := st.map (ra_cv ad)) (b := ad k0) (C := (mY mj).cls) (Ts := lwg) ⟨hx, hb, hml, hown, hts⟩ hM ⟨callB_of (ws' := lwg) as.length hts (ra_good hok) rfl rfl rfl (hts _ hok.2.2.1) (hts _ hlk) ⟨hok.1.2.1, hok.1.2.2, hpar⟩ ⟨hR.1, by have := hok.2.2.2; show 8 + (mX mj + 11) + 34 * d ≤ R.locals; omega⟩, hts _ hin, hts _ hsel⟩ ⟨ra_blind, va_recv hK hP hc (ra_w_get hsh), ra_pre hK hsta hAe hP hD hS⟩ rfl (by simp) hl.1 (by simp [ra_cv]) (lv_room (by omega)) hd ⟨Nat.zero_le _, Nat.zero_le _⟩) hS (fun q hq => hAe M H.size q hS.1 hq) (fun r M1 H1 locs1 hq oM1 or1 hP1 hS1 => ?_)
    have := hq H1 locs1 ls oL (fun v hv => by rcases List.mem_append.mp hv with h | h; exact or1 v (Option.mem_toList.mp h); exact oS2.2 v h) oM1 hl hP1 (ra_D_any hD) hS1
    rw [List.map_append] at this
    cases r with
    | none => exact this
    | some v => exact this
  · obtain ⟨rfl, mj, as, st, rfl, hcv, hst, hk⟩ := h
    obtain ⟨hlk, hstt, hpar, hok⟩ := hcv
    have oS2 : (∀ v ∈ as, ra_okV v) ∧ ra_okS st := ⟨fun v hv => oS v (List.mem_append_left _ (List.mem_reverse.mpr hv)), fun v hv => oS v (List.mem_append_right _ hv)⟩
    have hM := hcall mj as M _ hk hok oS2.1 oM H.size
    have hcs := ra_catsum ad st
    refine ra_call (va_runS (As := as.map (ra_cv ad)) (rest := st.map (ra_cv ad)) (Ts := lwg) ⟨hx, hb, hml, hown, hts⟩ hM ⟨callB_of (ws' := lwg) as.length hts (ra_good hok) rfl rfl rfl (hts _ hok.2.2.1) (hts _ hlk) ⟨hok.1.2.1, hok.1.2.2, hpar⟩ ⟨hR.1, by have := hok.2.2.2; show 8 + (mX mj + 11) + 34 * d ≤ R.locals; omega⟩, hts _ hstt⟩ ⟨ra_blind, ra_pre hK hsta hAe hP hD hS⟩ rfl (by simp) hl.1 (by simp) (lv_room (by omega)) hd ⟨Nat.zero_le _, Nat.zero_le _⟩) hS (fun q hq => hAe M H.size q hS.1 hq) (fun r M1 H1 locs1 hq oM1 or1 hP1 hS1 => ?_)
    have := hq H1 locs1 ls oL (fun v hv => by rcases List.mem_append.mp hv with h | h; exact or1 v (Option.mem_toList.mp h); exact oS2.2 v h) oM1 hl hP1 (ra_D_any hD) hS1
    rw [List.map_append] at this
    cases r with
    | none => exact this
    | some v => exact this
  · obtain ⟨rfl, z, rfl, hty, hq⟩ := h
    obtain ⟨oz, os⟩ := ra_okS_c.mp oS
    rcases hty with hty | ⟨hty, hz⟩
    · exact W.iret hx hb (hr.trans hty) (fun t ht hW => hret (some (vI z)) M H locs hq oM (fun v hv => by cases hv; exact oz) hP hS t ht hW) hS.2.2 hd hlocks
    · exact W.zret hx hb (hr.trans hty) (by rcases hz with q | q <;> rw [q] <;> rfl) (fun t ht hW => hret (some (vI z)) M H locs hq oM (fun v hv => by cases hv; exact oz) hP hS t ht hW) hS.2.2 hd hlocks
  · obtain ⟨rfl, z, rfl, hty, hq⟩ := h
    obtain ⟨oz, os⟩ := ra_okS_c.mp oS
    exact W.lret hx hb (hr.trans hty) (fun t ht hW => hret (some (vJ z)) M H locs hq oM (fun v hv => by cases hv; exact oz) hP hS t ht hW) hS.2.2 hd hlocks
  · obtain ⟨rfl, rfl, hty, hq⟩ := h
    exact W.vret hx hb (hr.trans hty) (fun t ht hW => hret none M H locs hq oM (fun v hv => by cases hv) hP hS t ht hW) hS.2.2 hd hlocks
  · exact absurd h id
theorem ra_met {C : Nat → List ra_V → ra_M → (Option ra_V → ra_M → Prop) → Prop} {mi d : Nat} {as : List ra_V} {M : ra_M} {Q : Option ra_V → ra_M → Prop} {R : Room}
    (hex : ra_ExF C mi as M Q) (hok : ra_ok mi) (has : ∀ v ∈ as, ra_okV v) (hM : ra_okM M) (hR : d + 1 ≤ R.frames ∧ 34 * d + 34 ≤ R.locals)
    (hcall : ∀ (mj : Nat) (as : List ra_V) (M : ra_M) (Q' : Option ra_V → ra_M → Prop), C mj as M Q' → ra_ok mj → (∀ v ∈ as, ra_okV v) → ra_okM M → ∀ sz : Nat, Met l (mY mj) (mW mj) (ra_rm d) (ra_Pc D cA ad as M sz) (ra_Qc D cA ad Q' (va_A (ra_w cA ad M) sz)) 0 0 (va_A (ra_w cA ad M) sz))
    (sz : Nat) : Met l (mY mi) (mW mi) R (ra_Pc D cA ad as M sz) (ra_Qc D cA ad Q (va_A (ra_w cA ad M) sz)) 0 0 (va_A (ra_w cA ad M) sz) := by
  obtain ⟨hlen, hex⟩ := hex
  refine MetFree.of_bodySF (code := mB mi) (maxLocals := mX mi) (ret := mR mi) hok.1.1 ?_ ?_
  · intro args s m h hn
    obtain ⟨meth, c, h1, h2, h3, h4, h5, h6, -, -⟩ := Cond.code_spec hn (atoms_spec (ws := mW mi) h _ List.mem_cons_self)
    exact ⟨meth, c, h1, h2, h3, h4, h5, h6⟩
  · intro p e s m args below meth c s₁ B hml hP _
    have hh0 : s₁.heap = s.heap := by rw [B.state]; rfl
    obtain ⟨rfl, hsz, hPw, hK, hD0, hsta⟩ := hP
    subst hsz
    have hts0 := atoms_spec (ws := mW mi) B.pre
    have hown : s.vm.findClass (mY mi).cls = some m.cls := findClass_of_methodNamed B.named
    have key : W p l e R s m (as.map (ra_cv ad)).toArray below meth c s.heap [] 0 0 (MQ below (ra_Qc D cA ad Q (va_A (ra_w cA ad M) s.heap.size)) (as.map (ra_cv ad)).toArray s 0 0 (va_A (ra_w cA ad M) s.heap.size)) (entryFrame m (as.map (ra_cv ad)).toArray (mX mi)) := by
      rw [lg_entry_eq]
      have hclo := ra_step (C := C) (d := d) (Q := Q) (Qc := ra_Qc D cA ad Q (va_A (ra_w cA ad M) s.heap.size)) (below := below) (e := e) (R := R) (l := l) (A := va_A (ra_w cA ad M) s.heap.size) (mi := mi)
        ⟨B.exec, B.bytes, hml, B.returns, B.notSynchronized, hown, fun w hw => hts0 w (List.mem_cons_of_mem _ hw), hK, hsta⟩ hR (fun M1 sz1 q h1 h2 => ra_A_any h1 h2) hcall
        (fun r M1 H locs hq oM1 or1 hP1 hS1 t ht hW => ⟨⟨r, M1, rfl, hq, oM1, or1, by rw [ht]; exact hP1⟩, hS1.F ht⟩)
      exact hex _ hclo s.heap [] _ (ra_okL_ini has) (fun v hv => by cases hv) hM (ra_has_ini hlen) hPw hD0.self va_S.rf
    obtain ⟨t, a1, o, b1, b2, b3⟩ := key s₁ hh0 (Stand.of_body B)
    exact ⟨t, o, a1, b1, b2, ⟨b3.1, b3.2⟩⟩
theorem ra_sound : ∀ (d mi : Nat) (as : List ra_V) (M : ra_M) (Q : Option ra_V → ra_M → Prop), Ex d mi as M Q → ra_ok mi → (∀ v ∈ as, ra_okV v) → ra_okM M → ∀ sz : Nat, Met l (mY mi) (mW mi) (ra_rm (d + 1)) (ra_Pc D cA ad as M sz) (ra_Qc D cA ad Q (va_A (ra_w cA ad M) sz)) 0 0 (va_A (ra_w cA ad M) sz) := by
  intro d
  induction d with
  | zero =>
    intro mi as M Q hex hok has hM sz
    exact ra_met (d := 0) hex hok has hM ⟨by show 0 + 1 ≤ 0 + 1; omega, by show 34 * 0 + 34 ≤ 34 * (0 + 1); omega⟩ (fun _ _ _ _ h => h.elim) sz
  | succ d ih =>
    intro mi as M Q hex hok has hM sz
    exact ra_met (d := d + 1) hex hok has hM ⟨by show d + 1 + 1 ≤ d + 1 + 1; omega, by show 34 * (d + 1) + 34 ≤ 34 * (d + 1 + 1); omega⟩ ih sz
end RA
