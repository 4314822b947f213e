/-! the law's own mean: the class's, called and caught; the world of the law: both objects and the array of one long -/
def OUT (cL : ClassId) (f : Nat → Int64) : va_E := .inl (cL, 1, .inr (.inl f))
def w2 (cA : ClassId) (ad : Nat → Nat) (M : ra_M) (qo : Nat) (cL : ClassId) (f : Nat → Int64) : va_W := ra_w cA ad M ++ [(qo, OUT cL f)]
theorem w2_get (cA : ClassId) (ad : Nat → Nat) (M : ra_M) (qo : Nat) (cL : ClassId) (f : Nat → Int64) : (w2 cA ad M qo cL f)[SH.length]? = some (qo, OUT cL f) := by
  unfold w2
  rw [List.getElem?_append_right (by rw [ra_w_len]; exact Nat.le_refl _), ra_w_len, Nat.sub_self]
  rfl
theorem w2_set (cA : ClassId) (ad : Nat → Nat) (M : ra_M) (qo : Nat) (cL : ClassId) (f g : Nat → Int64) : (w2 cA ad M qo cL f).set SH.length (qo, OUT cL g) = w2 cA ad M qo cL g := by
  unfold w2
  rw [List.set_append_right _ _ (by rw [ra_w_len]; exact Nat.le_refl _), ra_w_len, Nat.sub_self]
  rfl
theorem w2_cases {cA : ClassId} {ad : Nat → Nat} {M : ra_M} {qo : Nat} {cL : ClassId} {f : Nat → Int64} {k : Nat} {q : Nat × va_E} (h : (w2 cA ad M qo cL f)[k]? = some q) : (ra_w cA ad M)[k]? = some q ∨ (k = SH.length ∧ q = (qo, OUT cL f)) := by
  unfold w2 at h
  by_cases hl : k < (ra_w cA ad M).length
  · rw [List.getElem?_append_left hl] at h
    exact Or.inl h
  · right
    rw [List.getElem?_append_right (by omega)] at h
    have hz : k - (ra_w cA ad M).length < 1 := (List.getElem?_eq_some_iff.mp h).1
    rw [ra_w_len] at hl hz h
    rw [show k - SH.length = 0 by omega] at h
    exact ⟨by omega, by cases h; rfl⟩
theorem w2_l {D : va_G} {cA : ClassId} {ad : Nat → Nat} {M : ra_M} {qo : Nat} {cL : ClassId} {f : Nat → Int64} {H : Heap} (h : va_P D vwCl (w2 cA ad M qo cL f) H) : va_P D vwCl (ra_w cA ad M) H := by
  intro k q hq
  refine h k q ?_
  unfold w2
  rw [List.getElem?_append_left (List.getElem?_eq_some_iff.mp hq).1]
  exact hq
theorem w2_P {D : va_G} {cA : ClassId} {ad : Nat → Nat} {M : ra_M} {qo : Nat} {cL : ClassId} {f : Nat → Int64} {H : Heap} (h : va_P D vwCl (ra_w cA ad M) H) (h2 : va_at D vwCl (qo, OUT cL f) H) : va_P D vwCl (w2 cA ad M qo cL f) H := by
  intro k q hq
  rcases w2_cases hq with h1 | ⟨-, rfl⟩
  · exact h k q h1
  · exact h2
theorem w2_Dl {A : Nat → Prop} {cA : ClassId} {ad : Nat → Nat} {M : ra_M} {qo : Nat} {cL : ClassId} {f : Nat → Int64} (h : va_D A (w2 cA ad M qo cL f)) : va_D A (ra_w cA ad M) := by
  have up9 : ∀ (k : Nat) (q : Nat × va_E), (ra_w cA ad M)[k]? = some q → (w2 cA ad M qo cL f)[k]? = some q := by
    intro k q hq
    unfold w2
    rw [List.getElem?_append_left (List.getElem?_eq_some_iff.mp hq).1]
    exact hq
  exact ⟨fun i j p q hp hq hpq => h.1 i j p q (up9 i p hp) (up9 j q hq) hpq, fun k q hq => h.2 k q (up9 k q hq)⟩
theorem w2_ne {A : Nat → Prop} {cA : ClassId} {ad : Nat → Nat} {M : ra_M} {qo : Nat} {cL : ClassId} {f : Nat → Int64} (h : va_D A (w2 cA ad M qo cL f)) {k : Nat} (hk : k < SH.length) : ad k ≠ qo := by
  intro e
  have h1 : (w2 cA ad M qo cL f)[k]? = some (ad k, ra_cel cA ad SH[k] (M k)) := by
    unfold w2
    rw [List.getElem?_append_left (by rw [ra_w_len]; exact hk)]
    exact ra_w_get (List.getElem?_eq_getElem hk)
  have := h.1 k SH.length _ _ h1 (w2_get cA ad M qo cL f) e
  omega
theorem w2_Dany {A : Nat → Prop} {cA : ClassId} {ad : Nat → Nat} {M M' : ra_M} {qo : Nat} {cL : ClassId} {f f' : Nat → Int64} (h : va_D A (w2 cA ad M qo cL f)) : va_D A (w2 cA ad M' qo cL f') := by
  have key : ∀ (k : Nat) (q : Nat × va_E), (w2 cA ad M' qo cL f')[k]? = some q → ∃ q0, (w2 cA ad M qo cL f)[k]? = some q0 ∧ q0.1 = q.1 := by
    intro k q hq
    rcases w2_cases hq with h1 | ⟨rfl, rfl⟩
    · obtain ⟨h2, h3⟩ := ra_w_none h1
      refine ⟨(ad k, ra_cel cA ad SH[k] (M k)), ?_, h3.symm⟩
      unfold w2
      rw [List.getElem?_append_left (by rw [ra_w_len]; exact h2)]
      exact ra_w_get (List.getElem?_eq_getElem h2)
    · exact ⟨_, w2_get cA ad M qo cL f, rfl⟩
  refine ⟨fun i j p q hp hq hpq => ?_, fun k q hq => ?_⟩
  · obtain ⟨p0, a1, a2⟩ := key i p hp
    obtain ⟨q0, b1, b2⟩ := key j q hq
    exact h.1 i j p0 q0 a1 b1 (by rw [a2, b2, hpq])
  · obtain ⟨q0, b1, b2⟩ := key k q hq
    rw [← b2]
    exact h.2 k q0 b1
theorem w2_Ae {A : Nat → Prop} {s : State} {cA : ClassId} {ad : Nat → Nat} {M : ra_M} {qo : Nat} {cL : ClassId} {f : Nat → Int64} (h : va_D A (w2 cA ad M qo cL f)) (hA : ∀ q, s.heap.size ≤ q → A q) : ∀ (M' : ra_M) (sz q : Nat), s.heap.size ≤ sz → va_A (ra_w cA ad M') sz q → A q := by
  intro M' sz q hz h1
  rcases h1 with ⟨k, e, h1⟩ | h1
  · exact (ra_D_any (M' := M') (w2_Dl h)).2 k (q, e) h1
  · exact hA q (Nat.le_trans hz h1)
/-- behind a call that had both objects -/
theorem w2_after {A : Nat → Prop} {D : va_G} {cA : ClassId} {ad : Nat → Nat} {M M1 : ra_M} {qo : Nat} {cL : ClassId} {f : Nat → Int64} {H H1 : Heap} (hP : va_P D vwCl (w2 cA ad M qo cL f) H) (hD : va_D A (w2 cA ad M qo cL f)) (hP1 : va_P D vwCl (ra_w cA ad M1) H1) (hk : ∀ q : Nat, q < H.size → ¬ va_A (ra_w cA ad M) H.size q → H1[q]? = H[q]?) : va_P D vwCl (w2 cA ad M1 qo cL f) H1 := by
  have h0 : va_at D vwCl (qo, OUT cL f) H := hP _ _ (w2_get cA ad M qo cL f)
  have hlt : qo < H.size := h0.lt
  refine w2_P hP1 ?_
  have e : H1[qo]? = H[qo]? := by
    refine hk qo hlt (fun h => ?_)
    rcases h with ⟨k, e9, h⟩ | h
    · obtain ⟨h1, h2⟩ := ra_w_none h
      exact w2_ne hD h1 h2.symm
    · omega
  show H1[qo]? = _
  rw [e]
  exact h0
section LC
variable {p : Program} {l : Launch} {e : Env} {R : Room} {s : State} {m : MethodId} {args : Array Value} {below : List Frame} {meth : Method} {c : Code} {QF : State → Prop} {D : va_G} {cA cL : ClassId} {ad : Nat → Nat} {A : Nat → Prop} {qo : Nat} {f : Nat → Int64}
/-- a call of either object's method, out of the law -/
theorem lw_cv {H : Heap} {locs : List Loc} {cells slots pc nL ix mi d k0 ci N1 : Nat} {ks : List Nat} {T1 : u_T} {own : String} {cc : ByteArray} {ls : Array Slot} {rest : List Value} {as : List ra_V} {M : ra_M} {Q : Option ra_V → ra_M → Prop}
    (S : CallFix p m c cc nL s args lwg own) (hK : va_K D vwCl [(cA, .int), (cL, .long)] s) (hsta : ra_sta ad A s s.heap) (hA : ∀ q, s.heap.size ≤ q → A q)
    (hex : Ex d mi (vR k0 :: as) M Q) (hcv : ra_CV own ix mi as.length) (hsh : SH[k0]? = some (.inr (ci, ks))) (hc : vwCl[ci]? = some ((mY mi).cls, T1, N1)) (has : ∀ v ∈ as, ra_okV v) (hM : ra_okM M)
    (hP : va_P D vwCl (w2 cA ad M qo cL f) H) (hD : va_D A (w2 cA ad M qo cL f)) (hS : va_S A s.heap H locs) (hR : d + 2 ≤ R.frames ∧ 34 * (d + 1) + 34 ≤ R.locals) (hcs : cells ≤ R.cells ∧ slots ≤ R.slots) (hw : (rest.map fun v => v.category).sum ≤ 8) (hsz : ls.size = nL) (hd : decode cc pc = .ok (.invokevirtual ix, 3))
    (kk : ∀ (r : Option ra_V) (M1 : ra_M) (H1 : Heap) (locs1 : List Loc), Q r M1 → ra_okM M1 → (∀ v, r = some v → ra_okV v) → va_P D vwCl (w2 cA ad M1 qo cL f) H1 → va_D A (w2 cA ad M1 qo cL f) → va_S A s.heap H1 locs1 → W p l e R s m args below meth c H1 locs1 cells slots QF (F0 m (pc + 3) ls ((r.map (ra_cv ad)).toList ++ rest))) :
    W p l e R s m args below meth c H locs cells slots QF (F0 m pc ls ((as.map (ra_cv ad)).reverse ++ .ref (ad k0) :: rest)) := by
  obtain ⟨hlk, hin, hsel, hpar, hok⟩ := hcv
  have hts := S.2.2.2.2
  have hK1 : va_K D vwCl [(cA, .int)] s := hK.sub [0] rfl
  have hAe := w2_Ae (s := s) hD hA
  have hMet := ra_sound (l := l) (D := D) (cA := cA) (ad := ad) d mi (vR k0 :: as) M Q hex hok (List.forall_mem_cons.mpr ⟨trivial, has⟩) hM H.size
  refine ra_callG (va_runV (As := as.map (ra_cv ad)) (rest := rest) (b := ad k0) (C := (mY mi).cls) (Ts := lwg) S hMet ⟨callB_of (ws' := lwg) as.length hts (ra_good hok) rfl rfl rfl (hts _ hok.2.2.1) (hts _ hlk) ⟨hok.1.2.1, hok.1.2.2, hpar⟩ ⟨hR.1, by have := hok.2.2.2; show 8 + (mX mi + 11) + 34 * (d + 1) ≤ R.locals; omega⟩, hts _ hin, hts _ hsel⟩ ⟨ra_blind, va_recv hK1 (w2_l hP) hc (ra_w_get hsh), ra_pre hK1 hsta hAe (w2_l hP) (w2_Dl hD) hS⟩ rfl (by simp) hsz rfl (lv_room hw) hd hcs) hS (fun q hq => hAe M H.size q hS.1 hq) (fun r M1 H1 locs1 hq oM1 or1 hP1 hz1 hk1 hS1 => ?_)
  exact kk r M1 H1 locs1 hq oM1 or1 (w2_after hP hD hP1 hk1) (w2_Dany hD) hS1
end LC
def mlB (D : va_G) (cA cL : ClassId) (ad : Nat → Nat) (M : ra_M) (qo : Nat) (f : Nat → Int64) (sz : Nat) (U : State) : Prop := U.heap.size = sz ∧ va_P D vwCl (w2 cA ad M qo cL f) U.heap ∧ va_K D vwCl [(cA, .int), (cL, .long)] U ∧ va_D (fun _ => True) (w2 cA ad M qo cL f) ∧ ra_sta ad (va_A (w2 cA ad M qo cL f) sz) U U.heap ∧ thS (va_A (w2 cA ad M qo cL f) sz) U U.heap
theorem ml_blind {D : va_G} {cA cL : ClassId} {ad : Nat → Nat} {M : ra_M} {qo : Nat} {f : Nat → Int64} {as : List Value} {sz : Nat} : FrameBlind (va_Pc as (mlB D cA cL ad M qo f sz)) := by
  intro a U g mk q
  obtain ⟨q0, q1, qP, qK, qD, ⟨qZ, qT, qN⟩, qh⟩ := q
  exact ⟨q0, q1, qP, va_K.moved (u := U) (U := U.calling g mk a) (Vm.Alike.refl U.vm) qK, qD, ⟨va_Z.moved (u := U) (U := U.calling g mk a) (Vm.Alike.refl U.vm) qZ, va_T.moved (u := U) (U := U.calling g mk a) (Vm.Alike.refl U.vm) qT, va_Nw.same (u := U) (U := U.calling g mk a) rfl rfl qN⟩, thS_same (u := U) (U := U.calling g mk a) rfl rfl qh⟩
/-- mean throws, as the abstract state says it -/
def mlT (M : ra_M) (side : Int) : Prop := (0 ≤ side ∧ side ≤ 1) ∧ M 21 10 = 1 ∧ (0 ≤ M 1 5 ∧ M 1 5 ≤ 60) ∧ (∀ i : Nat, i < 60 → (0 ≤ M 26 (i : Nat) ∧ M 26 (i : Nat) ≤ 7320)) ∧ sumF (M 26) (M 1 5).toNat = 0
def mlW : List Cond := Cond.codeWith yL_mean cL_mean 4 (some .int) [(0, 9, 12, 13)] :: lwg
def mlQ (D : va_G) (cA cL : ClassId) (ad : Nat → Nat) (M : ra_M) (qo : Nat) (post : Int32 → (Nat → Int64) → Prop) (A : Nat → Prop) : Array Value → State → Outcome → State → Prop := va_Qi post (fun g t => va_P D vwCl (w2 cA ad M qo cL g) t.heap) A
set_option maxRecDepth 20000 in
set_option maxHeartbeats 2000000 in
theorem ml_ret {l : Launch} (D : va_G) (cA cL : ClassId) (ad : Nat → Nat) (M : ra_M) (hM : ra_okM M) (side : Int) (his : in32 side) (qo : Nat) (f : Nat → Int64) (z : Int) (hex : Ex 6 m_X7_mean [vR 0, vI side] M (fun r M1 => r = some (vI z) ∧ M1 = M)) (sz : Nat) :
    Met l yL_mean mlW { frames := 8, cells := 1, slots := 6, locals := 272 } (va_Pc [.ref (ad 0), .int (Int32.ofInt side), .ref qo] (mlB D cA cL ad M qo f sz)) (mlQ D cA cL ad M qo (fun r g => r = Int32.ofInt 0 ∧ g 0 = Int64.ofInt z) (va_A (w2 cA ad M qo cL f) sz)) 1 6 (va_A (w2 cA ad M qo cL f) sz) := by
  refine MetFree.of_bodyS (code := cL_mean) (maxLocals := 4) (ret := some .int) (by decide) ?_ ?_
  · intro args s m h hn
    obtain ⟨m9, meth9, c9, hn9, h1, h2, h3, h4, -, h6, h7, -⟩ := Cond.codeWith_spec (atoms_spec (ws := mlW) h _ List.mem_cons_self)
    cases Option.some.inj (hn9.symm.trans hn)
    exact ⟨meth9, c9, h1, h2, h3, h4, h6, h7⟩
  · intro p e s m args below meth c s₁ B hml hP _
    have hh0 : s₁.heap = s.heap := by rw [B.state]; rfl
    obtain ⟨rfl, hsz, hP, hK, hD0, hsta, hth⟩ := hP
    subst hsz
    have hx := B.exec
    have hb := B.bytes
    have hr := B.returns
    have hlocks := B.notSynchronized
    have hts0 := atoms_spec (ws := mlW) B.pre
    have hts : ∀ w ∈ lwg, w.before _ s = true := fun w hw => hts0 w (List.mem_cons_of_mem _ hw)
    have hown : s.vm.findClass RL = some m.cls := findClass_of_methodNamed B.named
    have htab : c.exceptionTable.toList = tableOf [(0, 9, 12, 13)] := vx_table (x := yL_mean) B (hts0 _ List.mem_cons_self)
    have hD := hD0.self (sz := s.heap.size)
    have key : W p l e { frames := 8, cells := 1, slots := 6, locals := 272 } s m ([.ref (ad 0), .int (Int32.ofInt side), .ref qo] : List Value).toArray below meth c s.heap [] 0 0 (MQ below (mlQ D cA cL ad M qo (fun r g => r = Int32.ofInt 0 ∧ g 0 = Int64.ofInt z) (va_A (w2 cA ad M qo cL f) s.heap.size)) ([.ref (ad 0), .int (Int32.ofInt side), .ref qo] : List Value).toArray s 1 6 (va_A (w2 cA ad M qo cL f) s.heap.size)) (entryFrame m ([.ref (ad 0), .int (Int32.ofInt side), .ref qo] : List Value).toArray 4) := by
      have hA : ∀ q : Nat, s.heap.size ≤ q → va_A (w2 cA ad M qo cL f) s.heap.size q := fun q h => Or.inr h
      generalize va_A (w2 cA ad M qo cL f) s.heap.size = A at hD hsta hth hA ⊢
      have hS : va_S A s.heap s.heap [] := va_S.rf
      have hl := lv_entry ([.ref (ad 0), .int (Int32.ofInt side), .ref qo]) (n := 4) (Nat.le_of_ble_eq_true rfl)
      rw [lg_entry_eq]
      generalize (lg_sl ([.ref (ad 0), .int (Int32.ofInt side), .ref qo]) ++ List.replicate (4 - (lg_sl ([.ref (ad 0), .int (Int32.ofInt side), .ref qo])).length) Slot.unset).toArray = ls at hl ⊢
      have hl : lv_has ls 4 [(0, .ref (ad 0)), (1, .int (Int32.ofInt side)), (2, .ref qo)] := hl
      have hcf : CallFix p m c cL_mean 4 s ([.ref (ad 0), .int (Int32.ofInt side), .ref qo] : List Value).toArray lwg RL := ⟨hx, hb, hml, hown, hts⟩
      refine lv_aload_n hx hb dL_mean_0 rfl (lv_at hl 2 rfl) ?_
      refine lv_iconst (v := Int32.ofInt 0) hx hb dL_mean_1 rfl ?_
      refine lv_aload_n hx hb dL_mean_2 rfl (lv_at hl 0 rfl) ?_
      refine lv_iload_n hx hb dL_mean_3 rfl (lv_at hl 1 rfl) ?_
      refine lw_cv (as := [vI side]) (k0 := 0) (rest := [.int (Int32.ofInt 0), .ref qo]) hcf hK hsta hA hex rm_L_7 (ci := 7) rfl (T1 := TX7) (N1 := 7) rfl (by intro v hv; cases hv with | head => exact his | tail _ h => cases h) hM hP hD hS ⟨Nat.le_of_ble_eq_true rfl, Nat.le_of_ble_eq_true rfl⟩ ⟨Nat.le_of_ble_eq_true rfl, Nat.le_of_ble_eq_true rfl⟩ (Nat.le_of_ble_eq_true rfl) hl.1 dL_mean_4 (fun r M1 H locs hq oM1 or1 hP1 hD1 hS1 => ?_)
      obtain ⟨rfl, rfl⟩ := hq
      have oz : in32 z := or1 _ rfl
      refine lv_i2l hx hb dL_mean_7 (v := Int64.ofInt z) (Int64.toInt_inj.mp (by rw [Int32.toInt_toInt64, ra_ti oz, ra_tj ⟨by have := oz.1; omega, by have := oz.2; omega⟩])) ?_
      refine va_last hx hb hK hP1 hD1 hS1 SH.length 1 (w2_get _ _ _ _ _ _) rfl (ra_vin ⟨by decide, by decide⟩ (by decide) (by decide)) dL_mean_8 (fun H2 locs2 hP2 hD2 hS2 => ?_)
      have hP2 : va_P D vwCl (w2 cA ad M1 qo cL (vp_updL f (Int32.ofInt 0).toNatClampNeg (Int64.ofInt z))) H2 := by
        rw [← w2_set cA ad M1 qo cL f]
        exact hP2
      refine lv_goto hx hb dL_mean_9 (tgt := 15) rfl ?_
      refine lv_iconst (v := Int32.ofInt 0) hx hb dL_mean_15 rfl ?_
      refine W.widen (k := 1) (n := 6) (Nat.le_of_ble_eq_true rfl) (Nat.le_of_ble_eq_true rfl) ?_
      exact W.iret hx hb hr (fun t ht hW => ⟨⟨_, vp_updL f (Int32.ofInt 0).toNatClampNeg (Int64.ofInt z), rfl, ⟨rfl, rfl⟩, show va_P D vwCl (w2 cA ad M1 qo cL (vp_updL f (Int32.ofInt 0).toNatClampNeg (Int64.ofInt z))) t.heap from by rw [ht]; exact hP2⟩, hS2.F ht⟩) hS2.2.2 dL_mean_16 hlocks
    obtain ⟨t, a1, o, b1, b2, b3⟩ := key s₁ hh0 (Stand.of_body B)
    exact ⟨t, o, a1, b1, b2, ⟨b3.1, b3.2⟩⟩
set_option maxRecDepth 20000 in
set_option maxHeartbeats 2000000 in
theorem ml_thr {l : Launch} (hst : l.stackTraces = false) (D : va_G) (cA cL : ClassId) (ad : Nat → Nat) (M : ra_M) (hM : ra_okM M) (side : Int) (his : in32 side) (qo : Nat) (f : Nat → Int64) (hT : mlT M side) (sz : Nat) :
    Met l yL_mean mlW { frames := 8, cells := 1, slots := 6, locals := 272 } (va_Pc [.ref (ad 0), .int (Int32.ofInt side), .ref qo] (mlB D cA cL ad M qo f sz)) (mlQ D cA cL ad M qo (fun r _ => r = Int32.ofInt 1) (va_A (w2 cA ad M qo cL f) sz)) 1 6 (va_A (w2 cA ad M qo cL f) sz) := by
  refine MetFree.of_bodyS (code := cL_mean) (maxLocals := 4) (ret := some .int) (by decide) ?_ ?_
  · intro args s m h hn
    obtain ⟨m9, meth9, c9, hn9, h1, h2, h3, h4, -, h6, h7, -⟩ := Cond.codeWith_spec (atoms_spec (ws := mlW) h _ List.mem_cons_self)
    cases Option.some.inj (hn9.symm.trans hn)
    exact ⟨meth9, c9, h1, h2, h3, h4, h6, h7⟩
  · intro p e s m args below meth c s₁ B hml hP _
    have hh0 : s₁.heap = s.heap := by rw [B.state]; rfl
    obtain ⟨rfl, hsz, hP, hK, hD0, hsta, hth⟩ := hP
    subst hsz
    have hx := B.exec
    have hb := B.bytes
    have hr := B.returns
    have hlocks := B.notSynchronized
    have hts0 := atoms_spec (ws := mlW) B.pre
    have hts : ∀ w ∈ lwg, w.before _ s = true := fun w hw => hts0 w (List.mem_cons_of_mem _ hw)
    have hown : s.vm.findClass RL = some m.cls := findClass_of_methodNamed B.named
    have htab : c.exceptionTable.toList = tableOf [(0, 9, 12, 13)] := vx_table (x := yL_mean) B (hts0 _ List.mem_cons_self)
    have hD := hD0.self (sz := s.heap.size)
    have key : W p l e { frames := 8, cells := 1, slots := 6, locals := 272 } s m ([.ref (ad 0), .int (Int32.ofInt side), .ref qo] : List Value).toArray below meth c s.heap [] 0 0 (MQ below (mlQ D cA cL ad M qo (fun r _ => r = Int32.ofInt 1) (va_A (w2 cA ad M qo cL f) s.heap.size)) ([.ref (ad 0), .int (Int32.ofInt side), .ref qo] : List Value).toArray s 1 6 (va_A (w2 cA ad M qo cL f) s.heap.size)) (entryFrame m ([.ref (ad 0), .int (Int32.ofInt side), .ref qo] : List Value).toArray 4) := by
      have hA : ∀ q : Nat, s.heap.size ≤ q → va_A (w2 cA ad M qo cL f) s.heap.size q := fun q h => Or.inr h
      generalize va_A (w2 cA ad M qo cL f) s.heap.size = A at hD hsta hth hA ⊢
      have hS : va_S A s.heap s.heap [] := va_S.rf
      have hl := lv_entry ([.ref (ad 0), .int (Int32.ofInt side), .ref qo]) (n := 4) (Nat.le_of_ble_eq_true rfl)
      rw [lg_entry_eq]
      generalize (lg_sl ([.ref (ad 0), .int (Int32.ofInt side), .ref qo]) ++ List.replicate (4 - (lg_sl ([.ref (ad 0), .int (Int32.ofInt side), .ref qo])).length) Slot.unset).toArray = ls at hl ⊢
      have hl : lv_has ls 4 [(0, .ref (ad 0)), (1, .int (Int32.ofInt side)), (2, .ref qo)] := hl
      have hcf : CallFix p m c cL_mean 4 s ([.ref (ad 0), .int (Int32.ofInt side), .ref qo] : List Value).toArray lwg RL := ⟨hx, hb, hml, hown, hts⟩
      refine lv_aload_n hx hb dL_mean_0 rfl (lv_at hl 2 rfl) ?_
      refine lv_iconst (v := Int32.ofInt 0) hx hb dL_mean_1 rfl ?_
      refine lv_aload_n hx hb dL_mean_2 rfl (lv_at hl 0 rfl) ?_
      refine lv_iload_n hx hb dL_mean_3 rfl (lv_at hl 1 rfl) ?_
      obtain ⟨hs, hk9, hn, b26, h0⟩ := hT
      have hK1 : va_K D vwCl [(cA, .int)] s := hK.sub [0] rfl
      have hAe := w2_Ae (s := s) hD hA
      have hsub : ∀ q, va_A (ra_w cA ad M) s.heap.size q → A q := fun q h => hAe M _ q (Nat.le_refl _) h
      have has : ∀ v ∈ [vR 0, vI side], ra_okV v := by
        intro v hv
        cases hv with
        | head => trivial
        | tail _ h => cases h with
          | head => exact his
          | tail _ h => cases h
      obtain ⟨hlk, hin, hsel, hpar, hok⟩ := rm_L_7
      have hMet := ti_mean (l := l) hst D cA ad M hM side his hs hk9 hn b26 h0 s.heap.size
      refine vx_calli (vx_runV (As := [Value.int (Int32.ofInt side)]) (rest := [.int (Int32.ofInt 0), .ref qo]) (b := ad 0) (C := RX7) (Ts := lwg) hcf hMet ⟨callB_of (ws' := lwg) 1 hts (ra_good hok) rfl rfl rfl (hts _ hok.2.2.1) (hts _ hlk) ⟨hok.1.2.1, hok.1.2.2, hpar⟩ ⟨Nat.le_of_ble_eq_true rfl, Nat.le_of_ble_eq_true rfl⟩, hts _ hin, hts _ hsel⟩ ⟨th_blind, va_recv hK1 (w2_l hP) (show vwCl[7]? = some (RX7, TX7, 7) from rfl) (ra_w_get (k := 0) rfl), fun U hU hW => ⟨rfl, (ra_pre (as := [vR 0, vI side]) hK1 hsta hAe (w2_l hP) (w2_Dl hD) hS U hU hW).2, thS_move hth hS hsub hU hW⟩⟩ rfl rfl hl.1 rfl (lv_room (Nat.le_of_ble_eq_true rfl)) dL_mean_4 ⟨Nat.le_of_ble_eq_true rfl, Nat.le_of_ble_eq_true rfl⟩) hS (fun q _ h => hsub q h) hsub (fun q _ h => hsub q h) ?_ ?_
      · intro E ce q9 u t H1 locs1 ht hal _ hBX hz hk1 hS1 hce hcv hcl
        obtain ⟨rfl, hP1⟩ := hBX
        rw [ht] at hP1
        have hP2 : va_P D vwCl (w2 cA ad M qo cL f) H1 := w2_after hP hD hP1 hk1
        have hcast : va_Nw (.castable thE thE) s := hth.2.2.2 _ (by simp [thW, thE])
        refine th_catch (own := RL) (name := thE) (E := thE) hown htab (by decide) (by decide) (hts _ (lwg_of 669 (by decide +kernel) rfl)) (va_Nw.use rfl hcast) hce hcv hcl ?_
        refine lv_astore_n hx hb dL_mean_12 rfl hl (Nat.le_of_ble_eq_true rfl) rfl (fun ls2 hl2 => ?_)
        refine lv_iconst (v := Int32.ofInt 1) hx hb dL_mean_13 rfl ?_
        exact W.iret hx hb hr (fun t ht hW => ⟨⟨_, f, rfl, rfl, show va_P D vwCl (w2 cA ad M qo cL f) t.heap from by rw [ht]; exact hP2⟩, hS1.F ht⟩) hS1.2.2 dL_mean_14 hlocks
      · intro r u t H1 locs1 _ _ hq
        exact hq.elim
    obtain ⟨t, a1, o, b1, b2, b3⟩ := key s₁ hh0 (Stand.of_body B)
    exact ⟨t, o, a1, b1, b2, ⟨b3.1, b3.2⟩⟩
