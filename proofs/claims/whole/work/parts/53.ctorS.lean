/-! constructors with writes: Score, Following -/
theorem ki_upd {g : Int → Int} {z y : Int} (hz : in32 z) (h0 : 0 ≤ z) : upd (fun i : Nat => Int32.ofInt (g (i : Nat))) (Int32.ofInt z).toNatClampNeg (Int32.ofInt y) = fun i : Nat => Int32.ofInt (fU g z y (i : Nat)) := by
  funext i
  have hc := ra_cl hz h0
  by_cases hi : i = (Int32.ofInt z).toNatClampNeg
  · subst hi
    rw [hc]
    simp [upd, fU]
  · have hne : ¬ ((i : Int) = z) := by omega
    simp [upd, fU, hi, hne]
section KI
variable {p : Program} {l : Launch} {e : Env} {R : Room} {s : State} {m : MethodId} {args : Array Value} {below : List Frame} {meth : Method} {c : Code} {H H0 : Heap} {locs : List Loc} {cells slots : Nat} {Q : State → Prop} {D : va_G} {cl : List vw_C} {tys : List (ClassId × FieldType)} {ws : va_W} {A : Nat → Prop} {pc : Nat} {ls : Array Slot} {rest : List Value} {cc : ByteArray} {a : Nat}
theorem ki_iast (hexec : p.tables.exec = Jvm.exec) (hb : c.code = cc) (hK : va_K D cl tys s) (hP : va_P D cl ws H) (hD : va_D A ws) (hS : va_S A H0 H locs) (q0 t0 : Nat) {cA : ClassId} {n : Nat} {g : Int → Int} (ha : ws[q0]? = some (a, .inl (cA, n, .inl (fun i : Nat => Int32.ofInt (g (i : Nat)))))) (ht : tys[t0]? = some (cA, .int)) {z y : Int} (hz : in32 z) (h0 : 0 ≤ z) (hn : z < n) (hdg : decode cc pc = .ok (.iastore, 1))
    (kk : ∀ (H1 : Heap) (locs1 : List Loc), va_P D cl (ws.set q0 (a, .inl (cA, n, .inl (fun i : Nat => Int32.ofInt (fU g z y (i : Nat)))))) H1 → va_D A (ws.set q0 (a, .inl (cA, n, .inl (fun i : Nat => Int32.ofInt (fU g z y (i : Nat)))))) → va_S A H0 H1 locs1 → W p l e R s m args below meth c H1 locs1 cells slots Q (F0 m (pc + 1) ls rest)) : W p l e R s m args below meth c H locs cells slots Q (F0 m pc ls (.int (Int32.ofInt y) :: .int (Int32.ofInt z) :: .ref a :: rest)) := by
  refine va_iast hexec hb hK hP hD hS q0 t0 ha ht (ra_vin hz h0 hn) hdg (fun H1 locs1 h1 h2 h3 => ?_)
  rw [ki_upd hz h0] at h1 h2
  exact kk H1 locs1 h1 h2 h3
/-- what stands still, for a callee -/
theorem ki_sta {ad : Nat → Nat} {wc : va_W} (hsta : ra_sta ad A s s.heap) (hS : va_S A s.heap H locs) (hsub : ∀ q, va_A wc H.size q → A q) : ∀ U : State, U.heap = H → s.WarmedH U.vm → ra_sta ad (va_A wc H.size) U U.heap := by
  intro U hU hW
  obtain ⟨hZ, hT, hN⟩ := hsta
  refine ⟨?_, ?_, va_Nw.warmF hW hN⟩
  · rw [hU]
    exact ((hZ.kept hS.2.1).moved hW.alike).narrow hsub
  · rw [hU]
    exact ((hT.kept hS.2.1).moved hW.alike).narrow hsub
end KI
def ki_BS (D : va_G) (cA : ClassId) (ad : Nat → Nat) (ws : va_W) (sz : Nat) (U : State) : Prop := U.heap.size = sz ∧ va_P D vwCl ws U.heap ∧ va_K D vwCl [(cA, .int)] U ∧ va_D (fun _ => True) ws ∧ ra_sta ad (va_A ws sz) U U.heap
theorem ki_blindS {D : va_G} {cA : ClassId} {ad : Nat → Nat} {as : List Value} {ws : va_W} {sz : Nat} : FrameBlind (va_Pc as (ki_BS D cA ad ws sz)) := by
  intro a U g mk q
  obtain ⟨q0, q1, qP, qK, qD, qZ, qT, qN⟩ := q
  exact ⟨q0, q1, qP, va_K.moved (u := U) (U := U.calling g mk a) (Vm.Alike.refl U.vm) qK, qD, va_Z.moved (u := U) (U := U.calling g mk a) (Vm.Alike.refl U.vm) qZ, va_T.moved (u := U) (U := U.calling g mk a) (Vm.Alike.refl U.vm) qT, va_Nw.same (u := U) (U := U.calling g mk a) rfl rfl qN⟩

set_option maxHeartbeats 4000000 in
set_option maxRecDepth 100000 in
theorem ci_X6_empty (l : Launch) (D : va_G) (cA : ClassId) (ad : Nat → Nat) (h0 b0 b1 b2 b3 b4 sz : Nat) : Met l yX6_empty (Cond.code yX6_empty cX6_empty 2 none :: lwg) { frames := 0, cells := 0, slots := 0, locals := 0 } (va_Pc [.ref h0] (ki_BS D cA ad [(h0, .inr (6, [.ref b0, .ref b1, .ref b2, .ref b3, .ref b4, .int (Int32.ofInt 0), .int (Int32.ofInt 0), .int (Int32.ofInt 0), .int (Int32.ofInt 0), .int (Int32.ofInt 0)])), (b4, .inl (cA, 5, .inl (fun i : Nat => Int32.ofInt ((fun _ => 0) (i : Nat)))))] sz)) (ki_Q D (fun _ => [(h0, .inr (6, [.ref b0, .ref b1, .ref b2, .ref b3, .ref b4, .int (Int32.ofInt 0), .int (Int32.ofInt 0), .int (Int32.ofInt (-1)), .int (Int32.ofInt (-1)), .int (Int32.ofInt 8)])), (b4, .inl (cA, 5, .inl (fun i : Nat => Int32.ofInt ((fU (fU (fU (fU (fU (fun _ => 0) 0 (ra_fc 0)) 1 (ra_fc 1)) 2 (ra_fc 2)) 3 (ra_fc 3)) 4 (ra_fc 4)) (i : Nat)))))]) (va_A [(h0, .inr (6, [.ref b0, .ref b1, .ref b2, .ref b3, .ref b4, .int (Int32.ofInt 0), .int (Int32.ofInt 0), .int (Int32.ofInt 0), .int (Int32.ofInt 0), .int (Int32.ofInt 0)])), (b4, .inl (cA, 5, .inl (fun i : Nat => Int32.ofInt ((fun _ => 0) (i : Nat)))))] sz)) 0 0 (va_A [(h0, .inr (6, [.ref b0, .ref b1, .ref b2, .ref b3, .ref b4, .int (Int32.ofInt 0), .int (Int32.ofInt 0), .int (Int32.ofInt 0), .int (Int32.ofInt 0), .int (Int32.ofInt 0)])), (b4, .inl (cA, 5, .inl (fun i : Nat => Int32.ofInt ((fun _ => 0) (i : Nat)))))] sz) := by
  refine Met.ofW (cc := cX6_empty) (maxL := 2) (ret := none) (by decide) rfl ?_
  intro p e s m args below meth c s₁ B hml hv
  obtain ⟨rfl, hsz, hP, hK, hD0, hsta⟩ := hv
  have hx := B.exec
  have hb := B.bytes
  have hr := B.returns
  have hts0 := atoms_spec (ws := Cond.code yX6_empty cX6_empty 2 none :: lwg) B.pre
  have hts : ∀ w ∈ lwg, w.before _ s = true := fun w hw => hts0 w (List.mem_cons_of_mem _ hw)
  have hown : s.vm.findClass RX6 = some m.cls := findClass_of_methodNamed B.named
  have hlocks := B.notSynchronized
  subst hsz
  rw [show va_A [(h0, .inr (6, [.ref b0, .ref b1, .ref b2, .ref b3, .ref b4, .int (Int32.ofInt 0), .int (Int32.ofInt 0), .int (Int32.ofInt 0), .int (Int32.ofInt 0), .int (Int32.ofInt 0)])), (b4, .inl (cA, 5, .inl (fun i : Nat => Int32.ofInt ((fun _ => 0) (i : Nat)))))] s.heap.size = va_A [(h0, .inr (6, [.ref b0, .ref b1, .ref b2, .ref b3, .ref b4, .int (Int32.ofInt 0), .int (Int32.ofInt 0), .int (Int32.ofInt 0), .int (Int32.ofInt 0), .int (Int32.ofInt 0)])), (b4, .inl (cA, 5, .inl (fun i : Nat => Int32.ofInt ((fun _ => 0) (i : Nat)))))] s.heap.size from rfl] at hsta
  have hD := hD0.self (sz := s.heap.size)
  generalize hAe : va_A [(h0, .inr (6, [.ref b0, .ref b1, .ref b2, .ref b3, .ref b4, .int (Int32.ofInt 0), .int (Int32.ofInt 0), .int (Int32.ofInt 0), .int (Int32.ofInt 0), .int (Int32.ofInt 0)])), (b4, .inl (cA, 5, .inl (fun i : Nat => Int32.ofInt ((fun _ => 0) (i : Nat)))))] s.heap.size = A at hD hsta ⊢
  have hA : ∀ q : Nat, s.heap.size ≤ q → A q := fun q h => by rw [← hAe]; exact Or.inr h
  have hS : va_S A s.heap s.heap [] := va_S.rf
  have hl := lv_entry ([.ref h0]) (n := 2) (Nat.le_of_ble_eq_true rfl)
  rw [lg_entry_eq]
  generalize (lg_sl ([.ref h0]) ++ List.replicate (2 - (lg_sl ([.ref h0])).length) Slot.unset).toArray = ls at hl ⊢
  have hl : lv_has ls 2 [(0, .ref h0)] := hl
  obtain ⟨hZ, ⟨cell, t1, t2, t3, t4, t5, t6, t7⟩, hN⟩ := hsta
  refine lv_aload_n hx hb dX6_empty_0 rfl (lv_at hl 0 rfl) ?_
  refine lv_iconst (v := Int32.ofInt 0) hx hb dX6_empty_1 rfl ?_
  refine va_put (D := D) (ci := 6) (v := .int (Int32.ofInt 0)) (ty := .int) (C := RX6) (T := TX6) (N := 10) hx hb hts (ra_clsfacts 6 RX6 TX6 10 rfl).1 tyX6 tyX6_ok nmX6 hown hK hP hD hS 0 rfl rfl 5 (by decide) (hts _ (lwg_of 51 (by decide +kernel) rfl)) (fun _ h9 => h9) rfl (by decide +kernel) rfl rfl (Nat.le_of_ble_eq_true rfl) dX6_empty_2 (fun H locs hP hD hS => ?_)
  have hP : va_P D vwCl [(h0, .inr (6, [.ref b0, .ref b1, .ref b2, .ref b3, .ref b4, .int (Int32.ofInt 0), .int (Int32.ofInt 0), .int (Int32.ofInt 0), .int (Int32.ofInt 0), .int (Int32.ofInt 0)])), (b4, .inl (cA, 5, .inl (fun i : Nat => Int32.ofInt ((fun _ => 0) (i : Nat)))))] H := hP
  have hD : va_D A [(h0, .inr (6, [.ref b0, .ref b1, .ref b2, .ref b3, .ref b4, .int (Int32.ofInt 0), .int (Int32.ofInt 0), .int (Int32.ofInt 0), .int (Int32.ofInt 0), .int (Int32.ofInt 0)])), (b4, .inl (cA, 5, .inl (fun i : Nat => Int32.ofInt ((fun _ => 0) (i : Nat)))))] := hD
  refine lv_aload_n hx hb dX6_empty_5 rfl (lv_at hl 0 rfl) ?_
  refine lv_iconst (v := Int32.ofInt 0) hx hb dX6_empty_6 rfl ?_
  refine va_put (D := D) (ci := 6) (v := .int (Int32.ofInt 0)) (ty := .int) (C := RX6) (T := TX6) (N := 10) hx hb hts (ra_clsfacts 6 RX6 TX6 10 rfl).1 tyX6 tyX6_ok nmX6 hown hK hP hD hS 0 rfl rfl 6 (by decide) (hts _ (lwg_of 56 (by decide +kernel) rfl)) (fun _ h9 => h9) rfl (by decide +kernel) rfl rfl (Nat.le_of_ble_eq_true rfl) dX6_empty_7 (fun H locs hP hD hS => ?_)
  have hP : va_P D vwCl [(h0, .inr (6, [.ref b0, .ref b1, .ref b2, .ref b3, .ref b4, .int (Int32.ofInt 0), .int (Int32.ofInt 0), .int (Int32.ofInt 0), .int (Int32.ofInt 0), .int (Int32.ofInt 0)])), (b4, .inl (cA, 5, .inl (fun i : Nat => Int32.ofInt ((fun _ => 0) (i : Nat)))))] H := hP
  have hD : va_D A [(h0, .inr (6, [.ref b0, .ref b1, .ref b2, .ref b3, .ref b4, .int (Int32.ofInt 0), .int (Int32.ofInt 0), .int (Int32.ofInt 0), .int (Int32.ofInt 0), .int (Int32.ofInt 0)])), (b4, .inl (cA, 5, .inl (fun i : Nat => Int32.ofInt ((fun _ => 0) (i : Nat)))))] := hD
  refine lv_aload_n hx hb dX6_empty_10 rfl (lv_at hl 0 rfl) ?_
  refine lv_iconst (v := Int32.ofInt (-1)) hx hb dX6_empty_11 rfl ?_
  refine va_put (D := D) (ci := 6) (v := .int (Int32.ofInt (-1))) (ty := .int) (C := RX6) (T := TX6) (N := 10) hx hb hts (ra_clsfacts 6 RX6 TX6 10 rfl).1 tyX6 tyX6_ok nmX6 hown hK hP hD hS 0 rfl rfl 7 (by decide) (hts _ (lwg_of 59 (by decide +kernel) rfl)) (fun _ h9 => h9) rfl (by decide +kernel) rfl rfl (Nat.le_of_ble_eq_true rfl) dX6_empty_12 (fun H locs hP hD hS => ?_)
  have hP : va_P D vwCl [(h0, .inr (6, [.ref b0, .ref b1, .ref b2, .ref b3, .ref b4, .int (Int32.ofInt 0), .int (Int32.ofInt 0), .int (Int32.ofInt (-1)), .int (Int32.ofInt 0), .int (Int32.ofInt 0)])), (b4, .inl (cA, 5, .inl (fun i : Nat => Int32.ofInt ((fun _ => 0) (i : Nat)))))] H := hP
  have hD : va_D A [(h0, .inr (6, [.ref b0, .ref b1, .ref b2, .ref b3, .ref b4, .int (Int32.ofInt 0), .int (Int32.ofInt 0), .int (Int32.ofInt (-1)), .int (Int32.ofInt 0), .int (Int32.ofInt 0)])), (b4, .inl (cA, 5, .inl (fun i : Nat => Int32.ofInt ((fun _ => 0) (i : Nat)))))] := hD
  refine lv_aload_n hx hb dX6_empty_15 rfl (lv_at hl 0 rfl) ?_
  refine lv_iconst (v := Int32.ofInt (-1)) hx hb dX6_empty_16 rfl ?_
  refine va_put (D := D) (ci := 6) (v := .int (Int32.ofInt (-1))) (ty := .int) (C := RX6) (T := TX6) (N := 10) hx hb hts (ra_clsfacts 6 RX6 TX6 10 rfl).1 tyX6 tyX6_ok nmX6 hown hK hP hD hS 0 rfl rfl 8 (by decide) (hts _ (lwg_of 62 (by decide +kernel) rfl)) (fun _ h9 => h9) rfl (by decide +kernel) rfl rfl (Nat.le_of_ble_eq_true rfl) dX6_empty_17 (fun H locs hP hD hS => ?_)
  have hP : va_P D vwCl [(h0, .inr (6, [.ref b0, .ref b1, .ref b2, .ref b3, .ref b4, .int (Int32.ofInt 0), .int (Int32.ofInt 0), .int (Int32.ofInt (-1)), .int (Int32.ofInt (-1)), .int (Int32.ofInt 0)])), (b4, .inl (cA, 5, .inl (fun i : Nat => Int32.ofInt ((fun _ => 0) (i : Nat)))))] H := hP
  have hD : va_D A [(h0, .inr (6, [.ref b0, .ref b1, .ref b2, .ref b3, .ref b4, .int (Int32.ofInt 0), .int (Int32.ofInt 0), .int (Int32.ofInt (-1)), .int (Int32.ofInt (-1)), .int (Int32.ofInt 0)])), (b4, .inl (cA, 5, .inl (fun i : Nat => Int32.ofInt ((fun _ => 0) (i : Nat)))))] := hD
  refine lv_aload_n hx hb dX6_empty_20 rfl (lv_at hl 0 rfl) ?_
  refine lv_bipush hx hb dX6_empty_21 (ra_b8 (n := 8) (by decide)) ?_
  refine va_put (D := D) (ci := 6) (v := .int (Int32.ofInt 8)) (ty := .int) (C := RX6) (T := TX6) (N := 10) hx hb hts (ra_clsfacts 6 RX6 TX6 10 rfl).1 tyX6 tyX6_ok nmX6 hown hK hP hD hS 0 rfl rfl 9 (by decide) (hts _ (lwg_of 65 (by decide +kernel) rfl)) (fun _ h9 => h9) rfl (by decide +kernel) rfl rfl (Nat.le_of_ble_eq_true rfl) dX6_empty_23 (fun H locs hP hD hS => ?_)
  have hP : va_P D vwCl [(h0, .inr (6, [.ref b0, .ref b1, .ref b2, .ref b3, .ref b4, .int (Int32.ofInt 0), .int (Int32.ofInt 0), .int (Int32.ofInt (-1)), .int (Int32.ofInt (-1)), .int (Int32.ofInt 8)])), (b4, .inl (cA, 5, .inl (fun i : Nat => Int32.ofInt ((fun _ => 0) (i : Nat)))))] H := hP
  have hD : va_D A [(h0, .inr (6, [.ref b0, .ref b1, .ref b2, .ref b3, .ref b4, .int (Int32.ofInt 0), .int (Int32.ofInt 0), .int (Int32.ofInt (-1)), .int (Int32.ofInt (-1)), .int (Int32.ofInt 8)])), (b4, .inl (cA, 5, .inl (fun i : Nat => Int32.ofInt ((fun _ => 0) (i : Nat)))))] := hD
  refine lv_iconst (v := Int32.ofInt 0) hx hb dX6_empty_26 rfl ?_
  refine lv_istore_n hx hb dX6_empty_27 rfl hl (by decide) rfl (fun ls hl => ?_)
  have hl : lv_has ls 2 [(1, .int (Int32.ofInt 0)), (0, .ref h0)] := hl
  refine lv_iload_n hx hb dX6_empty_28 rfl (lv_at hl 0 rfl) ?_
  refine va_getsN hx hb hZ hS hown (va_Nw.use rfl hN) (fun _ q => q) dX6_empty_29 ?_
  refine W.alen (n := Int32.ofInt 5) hx hb (by rw [hS.2.1 _ (Array.getElem?_eq_some_iff.mp t1).1 t7]; exact t1) t2 t5 rfl rfl dX6_empty_32 ?_
  refine W.eq (g2 := F0 m 33 ls [.int (Int32.ofInt 5), .int (Int32.ofInt 0)]) rfl ?_
  refine lv_icmp_ge (tgt := 53) hx hb dX6_empty_33 rfl (fun q => absurd q (by decide)) (fun _ => ?_)
  refine lv_aload_n hx hb dX6_empty_36 rfl (lv_at hl 1 rfl) ?_
  refine va_get (D := D) (ci := 6) (v := .ref b4) (C := RX6) (T := TX6) (N := 10) hx hb hts (ra_clsfacts 6 RX6 TX6 10 rfl).1 hown hK hP 0 rfl rfl 4 (by decide) (hts _ (lwg_of 46 (by decide +kernel) rfl)) (fun _ h9 => h9) rfl dX6_empty_37 ?_
  refine lv_iload_n hx hb dX6_empty_40 rfl (lv_at hl 0 rfl) ?_
  refine va_getsN hx hb hZ hS hown (va_Nw.use rfl hN) (fun _ q => q) dX6_empty_41 ?_
  refine lv_iload_n hx hb dX6_empty_44 rfl (lv_at hl 0 rfl) ?_
  refine W.iald (j := Int32.ofInt 0) (v := .int (Int32.ofInt (ra_fc 0))) hx hb (by rw [hS.2.1 _ (Array.getElem?_eq_some_iff.mp t1).1 t7]; exact t1) t2 t3 (fun q => ?_) (by rw [show (Int32.ofInt 0).toNatClampNeg = 0 from by decide]; exact t6 0 (by decide)) rfl rfl dX6_empty_45 ?_
  · exact q.elim (fun q => absurd q (by decide)) (fun q => absurd (Nat.le_trans t4 q) (by decide))
  refine W.eq (g2 := F0 m 46 ls [.int (Int32.ofInt (ra_fc 0)), .int (Int32.ofInt 0), .ref b4]) rfl ?_
  refine ki_iast (g := (fun _ => 0)) hx hb hK hP hD hS 1 0 rfl rfl (z := 0) (y := (ra_fc 0)) ⟨by decide, by decide⟩ (by decide) (by decide) dX6_empty_46 (fun H locs hP hD hS => ?_)
  have hP : va_P D vwCl [(h0, .inr (6, [.ref b0, .ref b1, .ref b2, .ref b3, .ref b4, .int (Int32.ofInt 0), .int (Int32.ofInt 0), .int (Int32.ofInt (-1)), .int (Int32.ofInt (-1)), .int (Int32.ofInt 8)])), (b4, .inl (cA, 5, .inl (fun i : Nat => Int32.ofInt ((fU (fun _ => 0) 0 (ra_fc 0)) (i : Nat)))))] H := hP
  have hD : va_D A [(h0, .inr (6, [.ref b0, .ref b1, .ref b2, .ref b3, .ref b4, .int (Int32.ofInt 0), .int (Int32.ofInt 0), .int (Int32.ofInt (-1)), .int (Int32.ofInt (-1)), .int (Int32.ofInt 8)])), (b4, .inl (cA, 5, .inl (fun i : Nat => Int32.ofInt ((fU (fun _ => 0) 0 (ra_fc 0)) (i : Nat)))))] := hD
  refine lv_iinc (v := Int32.ofInt 1) hx hb dX6_empty_47 hl (k := 0) rfl (by decide) (by decide) rfl (fun ls hl => ?_)
  have hl : lv_has ls 2 [(1, .int (Int32.ofInt 1)), (0, .ref h0)] := hl
  refine lv_goto (tgt := 28) hx hb dX6_empty_50 rfl ?_
  refine lv_iload_n hx hb dX6_empty_28 rfl (lv_at hl 0 rfl) ?_
  refine va_getsN hx hb hZ hS hown (va_Nw.use rfl hN) (fun _ q => q) dX6_empty_29 ?_
  refine W.alen (n := Int32.ofInt 5) hx hb (by rw [hS.2.1 _ (Array.getElem?_eq_some_iff.mp t1).1 t7]; exact t1) t2 t5 rfl rfl dX6_empty_32 ?_
  refine W.eq (g2 := F0 m 33 ls [.int (Int32.ofInt 5), .int (Int32.ofInt 1)]) rfl ?_
  refine lv_icmp_ge (tgt := 53) hx hb dX6_empty_33 rfl (fun q => absurd q (by decide)) (fun _ => ?_)
  refine lv_aload_n hx hb dX6_empty_36 rfl (lv_at hl 1 rfl) ?_
  refine va_get (D := D) (ci := 6) (v := .ref b4) (C := RX6) (T := TX6) (N := 10) hx hb hts (ra_clsfacts 6 RX6 TX6 10 rfl).1 hown hK hP 0 rfl rfl 4 (by decide) (hts _ (lwg_of 46 (by decide +kernel) rfl)) (fun _ h9 => h9) rfl dX6_empty_37 ?_
  refine lv_iload_n hx hb dX6_empty_40 rfl (lv_at hl 0 rfl) ?_
  refine va_getsN hx hb hZ hS hown (va_Nw.use rfl hN) (fun _ q => q) dX6_empty_41 ?_
  refine lv_iload_n hx hb dX6_empty_44 rfl (lv_at hl 0 rfl) ?_
  refine W.iald (j := Int32.ofInt 1) (v := .int (Int32.ofInt (ra_fc 1))) hx hb (by rw [hS.2.1 _ (Array.getElem?_eq_some_iff.mp t1).1 t7]; exact t1) t2 t3 (fun q => ?_) (by rw [show (Int32.ofInt 1).toNatClampNeg = 1 from by decide]; exact t6 1 (by decide)) rfl rfl dX6_empty_45 ?_
  · exact q.elim (fun q => absurd q (by decide)) (fun q => absurd (Nat.le_trans t4 q) (by decide))
  refine W.eq (g2 := F0 m 46 ls [.int (Int32.ofInt (ra_fc 1)), .int (Int32.ofInt 1), .ref b4]) rfl ?_
  refine ki_iast (g := (fU (fun _ => 0) 0 (ra_fc 0))) hx hb hK hP hD hS 1 0 rfl rfl (z := 1) (y := (ra_fc 1)) ⟨by decide, by decide⟩ (by decide) (by decide) dX6_empty_46 (fun H locs hP hD hS => ?_)
  have hP : va_P D vwCl [(h0, .inr (6, [.ref b0, .ref b1, .ref b2, .ref b3, .ref b4, .int (Int32.ofInt 0), .int (Int32.ofInt 0), .int (Int32.ofInt (-1)), .int (Int32.ofInt (-1)), .int (Int32.ofInt 8)])), (b4, .inl (cA, 5, .inl (fun i : Nat => Int32.ofInt ((fU (fU (fun _ => 0) 0 (ra_fc 0)) 1 (ra_fc 1)) (i : Nat)))))] H := hP
  have hD : va_D A [(h0, .inr (6, [.ref b0, .ref b1, .ref b2, .ref b3, .ref b4, .int (Int32.ofInt 0), .int (Int32.ofInt 0), .int (Int32.ofInt (-1)), .int (Int32.ofInt (-1)), .int (Int32.ofInt 8)])), (b4, .inl (cA, 5, .inl (fun i : Nat => Int32.ofInt ((fU (fU (fun _ => 0) 0 (ra_fc 0)) 1 (ra_fc 1)) (i : Nat)))))] := hD
  refine lv_iinc (v := Int32.ofInt 2) hx hb dX6_empty_47 hl (k := 0) rfl (by decide) (by decide) rfl (fun ls hl => ?_)
  have hl : lv_has ls 2 [(1, .int (Int32.ofInt 2)), (0, .ref h0)] := hl
  refine lv_goto (tgt := 28) hx hb dX6_empty_50 rfl ?_
  refine lv_iload_n hx hb dX6_empty_28 rfl (lv_at hl 0 rfl) ?_
  refine va_getsN hx hb hZ hS hown (va_Nw.use rfl hN) (fun _ q => q) dX6_empty_29 ?_
  refine W.alen (n := Int32.ofInt 5) hx hb (by rw [hS.2.1 _ (Array.getElem?_eq_some_iff.mp t1).1 t7]; exact t1) t2 t5 rfl rfl dX6_empty_32 ?_
  refine W.eq (g2 := F0 m 33 ls [.int (Int32.ofInt 5), .int (Int32.ofInt 2)]) rfl ?_
  refine lv_icmp_ge (tgt := 53) hx hb dX6_empty_33 rfl (fun q => absurd q (by decide)) (fun _ => ?_)
  refine lv_aload_n hx hb dX6_empty_36 rfl (lv_at hl 1 rfl) ?_
  refine va_get (D := D) (ci := 6) (v := .ref b4) (C := RX6) (T := TX6) (N := 10) hx hb hts (ra_clsfacts 6 RX6 TX6 10 rfl).1 hown hK hP 0 rfl rfl 4 (by decide) (hts _ (lwg_of 46 (by decide +kernel) rfl)) (fun _ h9 => h9) rfl dX6_empty_37 ?_
  refine lv_iload_n hx hb dX6_empty_40 rfl (lv_at hl 0 rfl) ?_
  refine va_getsN hx hb hZ hS hown (va_Nw.use rfl hN) (fun _ q => q) dX6_empty_41 ?_
  refine lv_iload_n hx hb dX6_empty_44 rfl (lv_at hl 0 rfl) ?_
  refine W.iald (j := Int32.ofInt 2) (v := .int (Int32.ofInt (ra_fc 2))) hx hb (by rw [hS.2.1 _ (Array.getElem?_eq_some_iff.mp t1).1 t7]; exact t1) t2 t3 (fun q => ?_) (by rw [show (Int32.ofInt 2).toNatClampNeg = 2 from by decide]; exact t6 2 (by decide)) rfl rfl dX6_empty_45 ?_
  · exact q.elim (fun q => absurd q (by decide)) (fun q => absurd (Nat.le_trans t4 q) (by decide))
  refine W.eq (g2 := F0 m 46 ls [.int (Int32.ofInt (ra_fc 2)), .int (Int32.ofInt 2), .ref b4]) rfl ?_
  refine ki_iast (g := (fU (fU (fun _ => 0) 0 (ra_fc 0)) 1 (ra_fc 1))) hx hb hK hP hD hS 1 0 rfl rfl (z := 2) (y := (ra_fc 2)) ⟨by decide, by decide⟩ (by decide) (by decide) dX6_empty_46 (fun H locs hP hD hS => ?_)
  have hP : va_P D vwCl [(h0, .inr (6, [.ref b0, .ref b1, .ref b2, .ref b3, .ref b4, .int (Int32.ofInt 0), .int (Int32.ofInt 0), .int (Int32.ofInt (-1)), .int (Int32.ofInt (-1)), .int (Int32.ofInt 8)])), (b4, .inl (cA, 5, .inl (fun i : Nat => Int32.ofInt ((fU (fU (fU (fun _ => 0) 0 (ra_fc 0)) 1 (ra_fc 1)) 2 (ra_fc 2)) (i : Nat)))))] H := hP
  have hD : va_D A [(h0, .inr (6, [.ref b0, .ref b1, .ref b2, .ref b3, .ref b4, .int (Int32.ofInt 0), .int (Int32.ofInt 0), .int (Int32.ofInt (-1)), .int (Int32.ofInt (-1)), .int (Int32.ofInt 8)])), (b4, .inl (cA, 5, .inl (fun i : Nat => Int32.ofInt ((fU (fU (fU (fun _ => 0) 0 (ra_fc 0)) 1 (ra_fc 1)) 2 (ra_fc 2)) (i : Nat)))))] := hD
  refine lv_iinc (v := Int32.ofInt 3) hx hb dX6_empty_47 hl (k := 0) rfl (by decide) (by decide) rfl (fun ls hl => ?_)
  have hl : lv_has ls 2 [(1, .int (Int32.ofInt 3)), (0, .ref h0)] := hl
  refine lv_goto (tgt := 28) hx hb dX6_empty_50 rfl ?_
  refine lv_iload_n hx hb dX6_empty_28 rfl (lv_at hl 0 rfl) ?_
  refine va_getsN hx hb hZ hS hown (va_Nw.use rfl hN) (fun _ q => q) dX6_empty_29 ?_
  refine W.alen (n := Int32.ofInt 5) hx hb (by rw [hS.2.1 _ (Array.getElem?_eq_some_iff.mp t1).1 t7]; exact t1) t2 t5 rfl rfl dX6_empty_32 ?_
  refine W.eq (g2 := F0 m 33 ls [.int (Int32.ofInt 5), .int (Int32.ofInt 3)]) rfl ?_
  refine lv_icmp_ge (tgt := 53) hx hb dX6_empty_33 rfl (fun q => absurd q (by decide)) (fun _ => ?_)
  refine lv_aload_n hx hb dX6_empty_36 rfl (lv_at hl 1 rfl) ?_
  refine va_get (D := D) (ci := 6) (v := .ref b4) (C := RX6) (T := TX6) (N := 10) hx hb hts (ra_clsfacts 6 RX6 TX6 10 rfl).1 hown hK hP 0 rfl rfl 4 (by decide) (hts _ (lwg_of 46 (by decide +kernel) rfl)) (fun _ h9 => h9) rfl dX6_empty_37 ?_
  refine lv_iload_n hx hb dX6_empty_40 rfl (lv_at hl 0 rfl) ?_
  refine va_getsN hx hb hZ hS hown (va_Nw.use rfl hN) (fun _ q => q) dX6_empty_41 ?_
  refine lv_iload_n hx hb dX6_empty_44 rfl (lv_at hl 0 rfl) ?_
  refine W.iald (j := Int32.ofInt 3) (v := .int (Int32.ofInt (ra_fc 3))) hx hb (by rw [hS.2.1 _ (Array.getElem?_eq_some_iff.mp t1).1 t7]; exact t1) t2 t3 (fun q => ?_) (by rw [show (Int32.ofInt 3).toNatClampNeg = 3 from by decide]; exact t6 3 (by decide)) rfl rfl dX6_empty_45 ?_
  · exact q.elim (fun q => absurd q (by decide)) (fun q => absurd (Nat.le_trans t4 q) (by decide))
  refine W.eq (g2 := F0 m 46 ls [.int (Int32.ofInt (ra_fc 3)), .int (Int32.ofInt 3), .ref b4]) rfl ?_
  refine ki_iast (g := (fU (fU (fU (fun _ => 0) 0 (ra_fc 0)) 1 (ra_fc 1)) 2 (ra_fc 2))) hx hb hK hP hD hS 1 0 rfl rfl (z := 3) (y := (ra_fc 3)) ⟨by decide, by decide⟩ (by decide) (by decide) dX6_empty_46 (fun H locs hP hD hS => ?_)
  have hP : va_P D vwCl [(h0, .inr (6, [.ref b0, .ref b1, .ref b2, .ref b3, .ref b4, .int (Int32.ofInt 0), .int (Int32.ofInt 0), .int (Int32.ofInt (-1)), .int (Int32.ofInt (-1)), .int (Int32.ofInt 8)])), (b4, .inl (cA, 5, .inl (fun i : Nat => Int32.ofInt ((fU (fU (fU (fU (fun _ => 0) 0 (ra_fc 0)) 1 (ra_fc 1)) 2 (ra_fc 2)) 3 (ra_fc 3)) (i : Nat)))))] H := hP
  have hD : va_D A [(h0, .inr (6, [.ref b0, .ref b1, .ref b2, .ref b3, .ref b4, .int (Int32.ofInt 0), .int (Int32.ofInt 0), .int (Int32.ofInt (-1)), .int (Int32.ofInt (-1)), .int (Int32.ofInt 8)])), (b4, .inl (cA, 5, .inl (fun i : Nat => Int32.ofInt ((fU (fU (fU (fU (fun _ => 0) 0 (ra_fc 0)) 1 (ra_fc 1)) 2 (ra_fc 2)) 3 (ra_fc 3)) (i : Nat)))))] := hD
  refine lv_iinc (v := Int32.ofInt 4) hx hb dX6_empty_47 hl (k := 0) rfl (by decide) (by decide) rfl (fun ls hl => ?_)
  have hl : lv_has ls 2 [(1, .int (Int32.ofInt 4)), (0, .ref h0)] := hl
  refine lv_goto (tgt := 28) hx hb dX6_empty_50 rfl ?_
  refine lv_iload_n hx hb dX6_empty_28 rfl (lv_at hl 0 rfl) ?_
  refine va_getsN hx hb hZ hS hown (va_Nw.use rfl hN) (fun _ q => q) dX6_empty_29 ?_
  refine W.alen (n := Int32.ofInt 5) hx hb (by rw [hS.2.1 _ (Array.getElem?_eq_some_iff.mp t1).1 t7]; exact t1) t2 t5 rfl rfl dX6_empty_32 ?_
  refine W.eq (g2 := F0 m 33 ls [.int (Int32.ofInt 5), .int (Int32.ofInt 4)]) rfl ?_
  refine lv_icmp_ge (tgt := 53) hx hb dX6_empty_33 rfl (fun q => absurd q (by decide)) (fun _ => ?_)
  refine lv_aload_n hx hb dX6_empty_36 rfl (lv_at hl 1 rfl) ?_
  refine va_get (D := D) (ci := 6) (v := .ref b4) (C := RX6) (T := TX6) (N := 10) hx hb hts (ra_clsfacts 6 RX6 TX6 10 rfl).1 hown hK hP 0 rfl rfl 4 (by decide) (hts _ (lwg_of 46 (by decide +kernel) rfl)) (fun _ h9 => h9) rfl dX6_empty_37 ?_
  refine lv_iload_n hx hb dX6_empty_40 rfl (lv_at hl 0 rfl) ?_
  refine va_getsN hx hb hZ hS hown (va_Nw.use rfl hN) (fun _ q => q) dX6_empty_41 ?_
  refine lv_iload_n hx hb dX6_empty_44 rfl (lv_at hl 0 rfl) ?_
  refine W.iald (j := Int32.ofInt 4) (v := .int (Int32.ofInt (ra_fc 4))) hx hb (by rw [hS.2.1 _ (Array.getElem?_eq_some_iff.mp t1).1 t7]; exact t1) t2 t3 (fun q => ?_) (by rw [show (Int32.ofInt 4).toNatClampNeg = 4 from by decide]; exact t6 4 (by decide)) rfl rfl dX6_empty_45 ?_
  · exact q.elim (fun q => absurd q (by decide)) (fun q => absurd (Nat.le_trans t4 q) (by decide))
  refine W.eq (g2 := F0 m 46 ls [.int (Int32.ofInt (ra_fc 4)), .int (Int32.ofInt 4), .ref b4]) rfl ?_
  refine ki_iast (g := (fU (fU (fU (fU (fun _ => 0) 0 (ra_fc 0)) 1 (ra_fc 1)) 2 (ra_fc 2)) 3 (ra_fc 3))) hx hb hK hP hD hS 1 0 rfl rfl (z := 4) (y := (ra_fc 4)) ⟨by decide, by decide⟩ (by decide) (by decide) dX6_empty_46 (fun H locs hP hD hS => ?_)
  have hP : va_P D vwCl [(h0, .inr (6, [.ref b0, .ref b1, .ref b2, .ref b3, .ref b4, .int (Int32.ofInt 0), .int (Int32.ofInt 0), .int (Int32.ofInt (-1)), .int (Int32.ofInt (-1)), .int (Int32.ofInt 8)])), (b4, .inl (cA, 5, .inl (fun i : Nat => Int32.ofInt ((fU (fU (fU (fU (fU (fun _ => 0) 0 (ra_fc 0)) 1 (ra_fc 1)) 2 (ra_fc 2)) 3 (ra_fc 3)) 4 (ra_fc 4)) (i : Nat)))))] H := hP
  have hD : va_D A [(h0, .inr (6, [.ref b0, .ref b1, .ref b2, .ref b3, .ref b4, .int (Int32.ofInt 0), .int (Int32.ofInt 0), .int (Int32.ofInt (-1)), .int (Int32.ofInt (-1)), .int (Int32.ofInt 8)])), (b4, .inl (cA, 5, .inl (fun i : Nat => Int32.ofInt ((fU (fU (fU (fU (fU (fun _ => 0) 0 (ra_fc 0)) 1 (ra_fc 1)) 2 (ra_fc 2)) 3 (ra_fc 3)) 4 (ra_fc 4)) (i : Nat)))))] := hD
  refine lv_iinc (v := Int32.ofInt 5) hx hb dX6_empty_47 hl (k := 0) rfl (by decide) (by decide) rfl (fun ls hl => ?_)
  have hl : lv_has ls 2 [(1, .int (Int32.ofInt 5)), (0, .ref h0)] := hl
  refine lv_goto (tgt := 28) hx hb dX6_empty_50 rfl ?_
  refine lv_iload_n hx hb dX6_empty_28 rfl (lv_at hl 0 rfl) ?_
  refine va_getsN hx hb hZ hS hown (va_Nw.use rfl hN) (fun _ q => q) dX6_empty_29 ?_
  refine W.alen (n := Int32.ofInt 5) hx hb (by rw [hS.2.1 _ (Array.getElem?_eq_some_iff.mp t1).1 t7]; exact t1) t2 t5 rfl rfl dX6_empty_32 ?_
  refine W.eq (g2 := F0 m 33 ls [.int (Int32.ofInt 5), .int (Int32.ofInt 5)]) rfl ?_
  refine lv_icmp_ge (tgt := 53) hx hb dX6_empty_33 rfl (fun _ => ?_) (fun q => absurd (by decide) q)
  exact W.vret hx hb hr (fun t ht hW => ⟨⟨fun i => 0, rfl, trivial, by rw [ht]; exact hP, hD⟩, hS.F ht⟩) hS.2.2 dX6_empty_53

set_option maxHeartbeats 4000000 in
set_option maxRecDepth 100000 in
theorem ci_X6_init (l : Launch) (D : va_G) (cA : ClassId) (ad : Nat → Nat) (h0 sz : Nat) : Met l yX6_init (Cond.code yX6_init cX6_init 1 none :: lwg) { frames := 1, cells := 5, slots := 149, locals := 30 } (va_Pc [.ref h0] (ki_BS D cA ad [(h0, .inr (6, [.null, .null, .null, .null, .null, .int (Int32.ofInt 0), .int (Int32.ofInt 0), .int (Int32.ofInt 0), .int (Int32.ofInt 0), .int (Int32.ofInt 0)]))] sz)) (ki_Q D (fun u => [(h0, .inr (6, [.ref (u 0), .ref (u 1), .ref (u 2), .ref (u 3), .ref (u 4), .int (Int32.ofInt 0), .int (Int32.ofInt 0), .int (Int32.ofInt (-1)), .int (Int32.ofInt (-1)), .int (Int32.ofInt 8)])), (u 0, .inl (cA, 60, .inl (fun _ => Int32.ofInt 0))), (u 1, .inl (cA, 60, .inl (fun _ => Int32.ofInt 0))), (u 2, .inl (cA, 12, .inl (fun _ => Int32.ofInt 0))), (u 3, .inl (cA, 12, .inl (fun _ => Int32.ofInt 0))), (u 4, .inl (cA, 5, .inl (fun i : Nat => Int32.ofInt ((fU (fU (fU (fU (fU (fun _ => 0) 0 (ra_fc 0)) 1 (ra_fc 1)) 2 (ra_fc 2)) 3 (ra_fc 3)) 4 (ra_fc 4)) (i : Nat)))))]) (va_A [(h0, .inr (6, [.null, .null, .null, .null, .null, .int (Int32.ofInt 0), .int (Int32.ofInt 0), .int (Int32.ofInt 0), .int (Int32.ofInt 0), .int (Int32.ofInt 0)]))] sz)) 5 149 (va_A [(h0, .inr (6, [.null, .null, .null, .null, .null, .int (Int32.ofInt 0), .int (Int32.ofInt 0), .int (Int32.ofInt 0), .int (Int32.ofInt 0), .int (Int32.ofInt 0)]))] sz) := by
  refine Met.ofW (cc := cX6_init) (maxL := 1) (ret := none) (by decide) rfl ?_
  intro p e s m args below meth c s₁ B hml hv
  obtain ⟨rfl, hsz, hP, hK, hD0, hsta⟩ := hv
  have hx := B.exec
  have hb := B.bytes
  have hr := B.returns
  have hts0 := atoms_spec (ws := Cond.code yX6_init cX6_init 1 none :: lwg) B.pre
  have hts : ∀ w ∈ lwg, w.before _ s = true := fun w hw => hts0 w (List.mem_cons_of_mem _ hw)
  have hown : s.vm.findClass RX6 = some m.cls := findClass_of_methodNamed B.named
  have hlocks := B.notSynchronized
  have hin : meth.name = "<init>" := (name_of_methodNamed B.named B.method).1
  subst hsz
  rw [show va_A [(h0, .inr (6, [.null, .null, .null, .null, .null, .int (Int32.ofInt 0), .int (Int32.ofInt 0), .int (Int32.ofInt 0), .int (Int32.ofInt 0), .int (Int32.ofInt 0)]))] s.heap.size = va_A [(h0, .inr (6, [.null, .null, .null, .null, .null, .int (Int32.ofInt 0), .int (Int32.ofInt 0), .int (Int32.ofInt 0), .int (Int32.ofInt 0), .int (Int32.ofInt 0)]))] s.heap.size from rfl] at hsta
  have hD := hD0.self (sz := s.heap.size)
  generalize hAe : va_A [(h0, .inr (6, [.null, .null, .null, .null, .null, .int (Int32.ofInt 0), .int (Int32.ofInt 0), .int (Int32.ofInt 0), .int (Int32.ofInt 0), .int (Int32.ofInt 0)]))] s.heap.size = A at hD hsta ⊢
  have hA : ∀ q : Nat, s.heap.size ≤ q → A q := fun q h => by rw [← hAe]; exact Or.inr h
  have hS : va_S A s.heap s.heap [] := va_S.rf
  have hl := lv_entry ([.ref h0]) (n := 1) (Nat.le_of_ble_eq_true rfl)
  rw [lg_entry_eq]
  generalize (lg_sl ([.ref h0]) ++ List.replicate (1 - (lg_sl ([.ref h0])).length) Slot.unset).toArray = ls at hl ⊢
  have hl : lv_has ls 1 [(0, .ref h0)] := hl
  have hsta0 := hsta
  obtain ⟨hZ, ⟨cell, t1, t2, t3, t4, t5, t6, t7⟩, hN⟩ := hsta
  have hsta := hsta0
  refine lv_aload_n hx hb dX6_init_0 rfl (lv_at hl 0 rfl) ?_
  refine W.objInit hx hb hown (hts _ (lwg_of 28 (by decide +kernel) rfl)) (hts _ (lwg_of 21 (by decide +kernel) rfl)) (hts _ (lwg_of 22 (by decide +kernel) rfl)) rfl (by rw [hml]; exact hl.1) rfl dX6_init_1 (Nat.le_of_ble_eq_true rfl) (Nat.le_of_ble_eq_true rfl) ?_
  refine W.eq (g2 := F0 m 4 ls []) rfl ?_
  refine lv_aload_n hx hb dX6_init_4 rfl (lv_at hl 0 rfl) ?_
  refine lv_bipush hx hb dX6_init_5 (ra_b8 (n := 60) (by decide)) ?_
  refine va_newa (ty := .int) (a0 := (60, .inl (fun _ => Int32.ofInt 0))) (N' := 60) hx hb (hts _ (lwg_of 89 (by decide +kernel) rfl)) rfl hK hP hD hS hA (fun _ => rfl) (by decide) (by decide) (by decide) (Nat.le_of_ble_eq_true rfl) (Nat.le_of_ble_eq_true rfl) dX6_init_7 (fun q7 cB H hK2 hP hD hS => ?_)
  obtain rfl : cA = cB := ki_one hK2
  have hP : va_P D vwCl [(h0, .inr (6, [.null, .null, .null, .null, .null, .int (Int32.ofInt 0), .int (Int32.ofInt 0), .int (Int32.ofInt 0), .int (Int32.ofInt 0), .int (Int32.ofInt 0)])), (q7, .inl (cA, 60, .inl (fun _ => Int32.ofInt 0)))] H := hP
  have hD : va_D A [(h0, .inr (6, [.null, .null, .null, .null, .null, .int (Int32.ofInt 0), .int (Int32.ofInt 0), .int (Int32.ofInt 0), .int (Int32.ofInt 0), .int (Int32.ofInt 0)])), (q7, .inl (cA, 60, .inl (fun _ => Int32.ofInt 0)))] := hD
  refine va_putF (D := D) (ci := 6) (v := .ref q7) (ty := (.array .int)) (C := RX6) (T := TX6) (N := 10) hx hb hts (ra_clsfacts 6 RX6 TX6 10 rfl).1 tyX6 tyX6_ok nmX6 hown hK hP hD hS 0 rfl rfl 0 (by decide) (hts _ (lwg_of 35 (by decide +kernel) rfl)) (fun _ h9 => h9) rfl hin rfl (by decide +kernel) rfl rfl (Nat.le_of_ble_eq_true rfl) dX6_init_9 (fun H locs hP hD hS => ?_)
  have hP : va_P D vwCl [(h0, .inr (6, [.ref q7, .null, .null, .null, .null, .int (Int32.ofInt 0), .int (Int32.ofInt 0), .int (Int32.ofInt 0), .int (Int32.ofInt 0), .int (Int32.ofInt 0)])), (q7, .inl (cA, 60, .inl (fun _ => Int32.ofInt 0)))] H := hP
  have hD : va_D A [(h0, .inr (6, [.ref q7, .null, .null, .null, .null, .int (Int32.ofInt 0), .int (Int32.ofInt 0), .int (Int32.ofInt 0), .int (Int32.ofInt 0), .int (Int32.ofInt 0)])), (q7, .inl (cA, 60, .inl (fun _ => Int32.ofInt 0)))] := hD
  refine lv_aload_n hx hb dX6_init_12 rfl (lv_at hl 0 rfl) ?_
  refine lv_bipush hx hb dX6_init_13 (ra_b8 (n := 60) (by decide)) ?_
  refine va_newa (ty := .int) (a0 := (60, .inl (fun _ => Int32.ofInt 0))) (N' := 60) hx hb (hts _ (lwg_of 89 (by decide +kernel) rfl)) rfl hK hP hD hS hA (fun _ => rfl) (by decide) (by decide) (by decide) (Nat.le_of_ble_eq_true rfl) (Nat.le_of_ble_eq_true rfl) dX6_init_15 (fun q15 cB H hK2 hP hD hS => ?_)
  obtain rfl : cA = cB := ki_one hK2
  have hP : va_P D vwCl [(h0, .inr (6, [.ref q7, .null, .null, .null, .null, .int (Int32.ofInt 0), .int (Int32.ofInt 0), .int (Int32.ofInt 0), .int (Int32.ofInt 0), .int (Int32.ofInt 0)])), (q7, .inl (cA, 60, .inl (fun _ => Int32.ofInt 0))), (q15, .inl (cA, 60, .inl (fun _ => Int32.ofInt 0)))] H := hP
  have hD : va_D A [(h0, .inr (6, [.ref q7, .null, .null, .null, .null, .int (Int32.ofInt 0), .int (Int32.ofInt 0), .int (Int32.ofInt 0), .int (Int32.ofInt 0), .int (Int32.ofInt 0)])), (q7, .inl (cA, 60, .inl (fun _ => Int32.ofInt 0))), (q15, .inl (cA, 60, .inl (fun _ => Int32.ofInt 0)))] := hD
  refine va_putF (D := D) (ci := 6) (v := .ref q15) (ty := (.array .int)) (C := RX6) (T := TX6) (N := 10) hx hb hts (ra_clsfacts 6 RX6 TX6 10 rfl).1 tyX6 tyX6_ok nmX6 hown hK hP hD hS 0 rfl rfl 1 (by decide) (hts _ (lwg_of 39 (by decide +kernel) rfl)) (fun _ h9 => h9) rfl hin rfl (by decide +kernel) rfl rfl (Nat.le_of_ble_eq_true rfl) dX6_init_17 (fun H locs hP hD hS => ?_)
  have hP : va_P D vwCl [(h0, .inr (6, [.ref q7, .ref q15, .null, .null, .null, .int (Int32.ofInt 0), .int (Int32.ofInt 0), .int (Int32.ofInt 0), .int (Int32.ofInt 0), .int (Int32.ofInt 0)])), (q7, .inl (cA, 60, .inl (fun _ => Int32.ofInt 0))), (q15, .inl (cA, 60, .inl (fun _ => Int32.ofInt 0)))] H := hP
  have hD : va_D A [(h0, .inr (6, [.ref q7, .ref q15, .null, .null, .null, .int (Int32.ofInt 0), .int (Int32.ofInt 0), .int (Int32.ofInt 0), .int (Int32.ofInt 0), .int (Int32.ofInt 0)])), (q7, .inl (cA, 60, .inl (fun _ => Int32.ofInt 0))), (q15, .inl (cA, 60, .inl (fun _ => Int32.ofInt 0)))] := hD
  refine lv_aload_n hx hb dX6_init_20 rfl (lv_at hl 0 rfl) ?_
  refine lv_bipush hx hb dX6_init_21 (ra_b8 (n := 12) (by decide)) ?_
  refine va_newa (ty := .int) (a0 := (12, .inl (fun _ => Int32.ofInt 0))) (N' := 12) hx hb (hts _ (lwg_of 89 (by decide +kernel) rfl)) rfl hK hP hD hS hA (fun _ => rfl) (by decide) (by decide) (by decide) (Nat.le_of_ble_eq_true rfl) (Nat.le_of_ble_eq_true rfl) dX6_init_23 (fun q23 cB H hK2 hP hD hS => ?_)
  obtain rfl : cA = cB := ki_one hK2
  have hP : va_P D vwCl [(h0, .inr (6, [.ref q7, .ref q15, .null, .null, .null, .int (Int32.ofInt 0), .int (Int32.ofInt 0), .int (Int32.ofInt 0), .int (Int32.ofInt 0), .int (Int32.ofInt 0)])), (q7, .inl (cA, 60, .inl (fun _ => Int32.ofInt 0))), (q15, .inl (cA, 60, .inl (fun _ => Int32.ofInt 0))), (q23, .inl (cA, 12, .inl (fun _ => Int32.ofInt 0)))] H := hP
  have hD : va_D A [(h0, .inr (6, [.ref q7, .ref q15, .null, .null, .null, .int (Int32.ofInt 0), .int (Int32.ofInt 0), .int (Int32.ofInt 0), .int (Int32.ofInt 0), .int (Int32.ofInt 0)])), (q7, .inl (cA, 60, .inl (fun _ => Int32.ofInt 0))), (q15, .inl (cA, 60, .inl (fun _ => Int32.ofInt 0))), (q23, .inl (cA, 12, .inl (fun _ => Int32.ofInt 0)))] := hD
  refine va_putF (D := D) (ci := 6) (v := .ref q23) (ty := (.array .int)) (C := RX6) (T := TX6) (N := 10) hx hb hts (ra_clsfacts 6 RX6 TX6 10 rfl).1 tyX6 tyX6_ok nmX6 hown hK hP hD hS 0 rfl rfl 2 (by decide) (hts _ (lwg_of 42 (by decide +kernel) rfl)) (fun _ h9 => h9) rfl hin rfl (by decide +kernel) rfl rfl (Nat.le_of_ble_eq_true rfl) dX6_init_25 (fun H locs hP hD hS => ?_)
  have hP : va_P D vwCl [(h0, .inr (6, [.ref q7, .ref q15, .ref q23, .null, .null, .int (Int32.ofInt 0), .int (Int32.ofInt 0), .int (Int32.ofInt 0), .int (Int32.ofInt 0), .int (Int32.ofInt 0)])), (q7, .inl (cA, 60, .inl (fun _ => Int32.ofInt 0))), (q15, .inl (cA, 60, .inl (fun _ => Int32.ofInt 0))), (q23, .inl (cA, 12, .inl (fun _ => Int32.ofInt 0)))] H := hP
  have hD : va_D A [(h0, .inr (6, [.ref q7, .ref q15, .ref q23, .null, .null, .int (Int32.ofInt 0), .int (Int32.ofInt 0), .int (Int32.ofInt 0), .int (Int32.ofInt 0), .int (Int32.ofInt 0)])), (q7, .inl (cA, 60, .inl (fun _ => Int32.ofInt 0))), (q15, .inl (cA, 60, .inl (fun _ => Int32.ofInt 0))), (q23, .inl (cA, 12, .inl (fun _ => Int32.ofInt 0)))] := hD
  refine lv_aload_n hx hb dX6_init_28 rfl (lv_at hl 0 rfl) ?_
  refine lv_bipush hx hb dX6_init_29 (ra_b8 (n := 12) (by decide)) ?_
  refine va_newa (ty := .int) (a0 := (12, .inl (fun _ => Int32.ofInt 0))) (N' := 12) hx hb (hts _ (lwg_of 89 (by decide +kernel) rfl)) rfl hK hP hD hS hA (fun _ => rfl) (by decide) (by decide) (by decide) (Nat.le_of_ble_eq_true rfl) (Nat.le_of_ble_eq_true rfl) dX6_init_31 (fun q31 cB H hK2 hP hD hS => ?_)
  obtain rfl : cA = cB := ki_one hK2
  have hP : va_P D vwCl [(h0, .inr (6, [.ref q7, .ref q15, .ref q23, .null, .null, .int (Int32.ofInt 0), .int (Int32.ofInt 0), .int (Int32.ofInt 0), .int (Int32.ofInt 0), .int (Int32.ofInt 0)])), (q7, .inl (cA, 60, .inl (fun _ => Int32.ofInt 0))), (q15, .inl (cA, 60, .inl (fun _ => Int32.ofInt 0))), (q23, .inl (cA, 12, .inl (fun _ => Int32.ofInt 0))), (q31, .inl (cA, 12, .inl (fun _ => Int32.ofInt 0)))] H := hP
  have hD : va_D A [(h0, .inr (6, [.ref q7, .ref q15, .ref q23, .null, .null, .int (Int32.ofInt 0), .int (Int32.ofInt 0), .int (Int32.ofInt 0), .int (Int32.ofInt 0), .int (Int32.ofInt 0)])), (q7, .inl (cA, 60, .inl (fun _ => Int32.ofInt 0))), (q15, .inl (cA, 60, .inl (fun _ => Int32.ofInt 0))), (q23, .inl (cA, 12, .inl (fun _ => Int32.ofInt 0))), (q31, .inl (cA, 12, .inl (fun _ => Int32.ofInt 0)))] := hD
  refine va_putF (D := D) (ci := 6) (v := .ref q31) (ty := (.array .int)) (C := RX6) (T := TX6) (N := 10) hx hb hts (ra_clsfacts 6 RX6 TX6 10 rfl).1 tyX6 tyX6_ok nmX6 hown hK hP hD hS 0 rfl rfl 3 (by decide) (hts _ (lwg_of 44 (by decide +kernel) rfl)) (fun _ h9 => h9) rfl hin rfl (by decide +kernel) rfl rfl (Nat.le_of_ble_eq_true rfl) dX6_init_33 (fun H locs hP hD hS => ?_)
  have hP : va_P D vwCl [(h0, .inr (6, [.ref q7, .ref q15, .ref q23, .ref q31, .null, .int (Int32.ofInt 0), .int (Int32.ofInt 0), .int (Int32.ofInt 0), .int (Int32.ofInt 0), .int (Int32.ofInt 0)])), (q7, .inl (cA, 60, .inl (fun _ => Int32.ofInt 0))), (q15, .inl (cA, 60, .inl (fun _ => Int32.ofInt 0))), (q23, .inl (cA, 12, .inl (fun _ => Int32.ofInt 0))), (q31, .inl (cA, 12, .inl (fun _ => Int32.ofInt 0)))] H := hP
  have hD : va_D A [(h0, .inr (6, [.ref q7, .ref q15, .ref q23, .ref q31, .null, .int (Int32.ofInt 0), .int (Int32.ofInt 0), .int (Int32.ofInt 0), .int (Int32.ofInt 0), .int (Int32.ofInt 0)])), (q7, .inl (cA, 60, .inl (fun _ => Int32.ofInt 0))), (q15, .inl (cA, 60, .inl (fun _ => Int32.ofInt 0))), (q23, .inl (cA, 12, .inl (fun _ => Int32.ofInt 0))), (q31, .inl (cA, 12, .inl (fun _ => Int32.ofInt 0)))] := hD
  refine lv_aload_n hx hb dX6_init_36 rfl (lv_at hl 0 rfl) ?_
  refine va_getsN hx hb hZ hS hown (va_Nw.use rfl hN) (fun _ q => q) dX6_init_37 ?_
  refine W.alen (n := Int32.ofInt 5) hx hb (by rw [hS.2.1 _ (Array.getElem?_eq_some_iff.mp t1).1 t7]; exact t1) t2 t5 rfl rfl dX6_init_40 ?_
  refine W.eq (g2 := F0 m 41 ls [.int (Int32.ofInt 5), .ref h0]) rfl ?_
  refine va_newa (ty := .int) (a0 := (5, .inl (fun _ => Int32.ofInt 0))) (N' := 5) hx hb (hts _ (lwg_of 89 (by decide +kernel) rfl)) rfl hK hP hD hS hA (fun _ => rfl) (by decide) (by decide) (by decide) (Nat.le_of_ble_eq_true rfl) (Nat.le_of_ble_eq_true rfl) dX6_init_41 (fun q41 cB H hK2 hP hD hS => ?_)
  obtain rfl : cA = cB := ki_one hK2
  have hP : va_P D vwCl [(h0, .inr (6, [.ref q7, .ref q15, .ref q23, .ref q31, .null, .int (Int32.ofInt 0), .int (Int32.ofInt 0), .int (Int32.ofInt 0), .int (Int32.ofInt 0), .int (Int32.ofInt 0)])), (q7, .inl (cA, 60, .inl (fun _ => Int32.ofInt 0))), (q15, .inl (cA, 60, .inl (fun _ => Int32.ofInt 0))), (q23, .inl (cA, 12, .inl (fun _ => Int32.ofInt 0))), (q31, .inl (cA, 12, .inl (fun _ => Int32.ofInt 0))), (q41, .inl (cA, 5, .inl (fun _ => Int32.ofInt 0)))] H := hP
  have hD : va_D A [(h0, .inr (6, [.ref q7, .ref q15, .ref q23, .ref q31, .null, .int (Int32.ofInt 0), .int (Int32.ofInt 0), .int (Int32.ofInt 0), .int (Int32.ofInt 0), .int (Int32.ofInt 0)])), (q7, .inl (cA, 60, .inl (fun _ => Int32.ofInt 0))), (q15, .inl (cA, 60, .inl (fun _ => Int32.ofInt 0))), (q23, .inl (cA, 12, .inl (fun _ => Int32.ofInt 0))), (q31, .inl (cA, 12, .inl (fun _ => Int32.ofInt 0))), (q41, .inl (cA, 5, .inl (fun _ => Int32.ofInt 0)))] := hD
  refine va_putF (D := D) (ci := 6) (v := .ref q41) (ty := (.array .int)) (C := RX6) (T := TX6) (N := 10) hx hb hts (ra_clsfacts 6 RX6 TX6 10 rfl).1 tyX6 tyX6_ok nmX6 hown hK hP hD hS 0 rfl rfl 4 (by decide) (hts _ (lwg_of 46 (by decide +kernel) rfl)) (fun _ h9 => h9) rfl hin rfl (by decide +kernel) rfl rfl (Nat.le_of_ble_eq_true rfl) dX6_init_43 (fun H locs hP hD hS => ?_)
  have hP : va_P D vwCl [(h0, .inr (6, [.ref q7, .ref q15, .ref q23, .ref q31, .ref q41, .int (Int32.ofInt 0), .int (Int32.ofInt 0), .int (Int32.ofInt 0), .int (Int32.ofInt 0), .int (Int32.ofInt 0)])), (q7, .inl (cA, 60, .inl (fun _ => Int32.ofInt 0))), (q15, .inl (cA, 60, .inl (fun _ => Int32.ofInt 0))), (q23, .inl (cA, 12, .inl (fun _ => Int32.ofInt 0))), (q31, .inl (cA, 12, .inl (fun _ => Int32.ofInt 0))), (q41, .inl (cA, 5, .inl (fun _ => Int32.ofInt 0)))] H := hP
  have hD : va_D A [(h0, .inr (6, [.ref q7, .ref q15, .ref q23, .ref q31, .ref q41, .int (Int32.ofInt 0), .int (Int32.ofInt 0), .int (Int32.ofInt 0), .int (Int32.ofInt 0), .int (Int32.ofInt 0)])), (q7, .inl (cA, 60, .inl (fun _ => Int32.ofInt 0))), (q15, .inl (cA, 60, .inl (fun _ => Int32.ofInt 0))), (q23, .inl (cA, 12, .inl (fun _ => Int32.ofInt 0))), (q31, .inl (cA, 12, .inl (fun _ => Int32.ofInt 0))), (q41, .inl (cA, 5, .inl (fun _ => Int32.ofInt 0)))] := hD
  refine lv_aload_n hx hb dX6_init_46 rfl (lv_at hl 0 rfl) ?_
  have hPc := hP.sub (ws' := [(h0, .inr (6, [.ref q7, .ref q15, .ref q23, .ref q31, .ref q41, .int (Int32.ofInt 0), .int (Int32.ofInt 0), .int (Int32.ofInt 0), .int (Int32.ofInt 0), .int (Int32.ofInt 0)])), (q41, .inl (cA, 5, .inl (fun i : Nat => Int32.ofInt ((fun _ => 0) (i : Nat)))))]) [0, 5] rfl
  have hDc := hD.sub (ws' := [(h0, .inr (6, [.ref q7, .ref q15, .ref q23, .ref q31, .ref q41, .int (Int32.ofInt 0), .int (Int32.ofInt 0), .int (Int32.ofInt 0), .int (Int32.ofInt 0), .int (Int32.ofInt 0)])), (q41, .inl (cA, 5, .inl (fun i : Nat => Int32.ofInt ((fun _ => 0) (i : Nat)))))]) [0, 5] (by decide) rfl
  have hFc := va_free (wc := [(h0, .inr (6, [.ref q7, .ref q15, .ref q23, .ref q31, .ref q41, .int (Int32.ofInt 0), .int (Int32.ofInt 0), .int (Int32.ofInt 0), .int (Int32.ofInt 0), .int (Int32.ofInt 0)])), (q41, .inl (cA, 5, .inl (fun i : Nat => Int32.ofInt ((fun _ => 0) (i : Nat)))))]) hD hS hA [0, 5] rfl
  refine va_callv (va_runV (As := []) (rest := []) (b := h0) (C := RX6) (Ts := lwg) ⟨hx, hb, hml, hown, hts⟩ (ci_X6_empty l D cA ad h0 q7 q15 q23 q31 q41 H.size) ⟨callB_of (ws' := lwg) 0 hts (ra_good ok_X6_empty) rfl rfl rfl (hts _ ok_X6_empty.2.2.1) (hts _ rm_X6_30.1) ⟨ok_X6_empty.1.2.1, ok_X6_empty.1.2.2, rm_X6_30.2.2.2.1⟩ ⟨Nat.le_of_ble_eq_true rfl, Nat.le_of_ble_eq_true rfl⟩, hts _ rm_X6_30.2.1, hts _ rm_X6_30.2.2.1⟩ ⟨ki_blindS, va_recv hK hP (show vwCl[6]? = some (RX6, TX6, 10) from rfl) (q0 := 0) rfl, fun U hU hW => ⟨rfl, by rw [hU], by rw [hU]; exact hPc, va_K.moved hW.alike hK, hDc.weaken (fun _ _ _ _ => trivial), ki_sta hsta hS hFc U hU hW⟩⟩ rfl rfl hl.1 rfl (lv_room (Nat.le_of_ble_eq_true rfl)) dX6_init_47 ⟨Nat.le_of_ble_eq_true rfl, Nat.le_of_ble_eq_true rfl⟩) hS (fun q _ h => hFc q h) hFc (fun u t H1 locs ht hvm hw hB hz1 hk1 hS => ?_)
  obtain ⟨hP1, hD1⟩ := hB
  rw [ht] at hP1
  obtain ⟨hP, hD⟩ := va_join (wr := [(q7, .inl (cA, 60, .inl (fun _ => Int32.ofInt 0))), (q15, .inl (cA, 60, .inl (fun _ => Int32.ofInt 0))), (q23, .inl (cA, 12, .inl (fun _ => Int32.ofInt 0))), (q31, .inl (cA, 12, .inl (fun _ => Int32.ofInt 0)))]) (w1 := [(h0, .inr (6, [.ref q7, .ref q15, .ref q23, .ref q31, .ref q41, .int (Int32.ofInt 0), .int (Int32.ofInt 0), .int (Int32.ofInt (-1)), .int (Int32.ofInt (-1)), .int (Int32.ofInt 8)])), (q41, .inl (cA, 5, .inl (fun i : Nat => Int32.ofInt ((fU (fU (fU (fU (fU (fun _ => 0) 0 (ra_fc 0)) 1 (ra_fc 1)) 2 (ra_fc 2)) 3 (ra_fc 3)) 4 (ra_fc 4)) (i : Nat)))))]) hP hD [0, 5] [1, 2, 3, 4] rfl rfl (by decide) (by decide) hk1 hFc hP1 hD1
  generalize H1 = H at hP hS ⊢
  have hP := hP.sub (ws' := [(h0, .inr (6, [.ref q7, .ref q15, .ref q23, .ref q31, .ref q41, .int (Int32.ofInt 0), .int (Int32.ofInt 0), .int (Int32.ofInt (-1)), .int (Int32.ofInt (-1)), .int (Int32.ofInt 8)])), (q7, .inl (cA, 60, .inl (fun _ => Int32.ofInt 0))), (q15, .inl (cA, 60, .inl (fun _ => Int32.ofInt 0))), (q23, .inl (cA, 12, .inl (fun _ => Int32.ofInt 0))), (q31, .inl (cA, 12, .inl (fun _ => Int32.ofInt 0))), (q41, .inl (cA, 5, .inl (fun i : Nat => Int32.ofInt ((fU (fU (fU (fU (fU (fun _ => 0) 0 (ra_fc 0)) 1 (ra_fc 1)) 2 (ra_fc 2)) 3 (ra_fc 3)) 4 (ra_fc 4)) (i : Nat)))))]) [4, 0, 1, 2, 3, 5] rfl
  have hD := hD.sub (ws' := [(h0, .inr (6, [.ref q7, .ref q15, .ref q23, .ref q31, .ref q41, .int (Int32.ofInt 0), .int (Int32.ofInt 0), .int (Int32.ofInt (-1)), .int (Int32.ofInt (-1)), .int (Int32.ofInt 8)])), (q7, .inl (cA, 60, .inl (fun _ => Int32.ofInt 0))), (q15, .inl (cA, 60, .inl (fun _ => Int32.ofInt 0))), (q23, .inl (cA, 12, .inl (fun _ => Int32.ofInt 0))), (q31, .inl (cA, 12, .inl (fun _ => Int32.ofInt 0))), (q41, .inl (cA, 5, .inl (fun i : Nat => Int32.ofInt ((fU (fU (fU (fU (fU (fun _ => 0) 0 (ra_fc 0)) 1 (ra_fc 1)) 2 (ra_fc 2)) 3 (ra_fc 3)) 4 (ra_fc 4)) (i : Nat)))))]) [4, 0, 1, 2, 3, 5] (by decide) rfl
  refine W.widen (k := 5) (n := 149) (Nat.le_of_ble_eq_true rfl) (Nat.le_of_ble_eq_true rfl) ?_
  exact W.vret hx hb hr (fun t ht hW => ⟨⟨fun i => [q7, q15, q23, q31, q41].getD i 0, rfl, trivial, by rw [ht]; exact hP, hD⟩, hS.F ht⟩) hS.2.2 dX6_init_50
