/-! constructors: an object's cell, and the rows that it makes -/
theorem ki_one {D : va_G} {cl : List vw_C} {cA cB : ClassId} {s : State} (h : va_K D cl ([(cA, .int)] ++ [(cB, .int)]) s) : cA = cB := by
  have h1 : s.vm.findClass ("[" ++ (FieldType.int).toString) = some cA := (h.2 0 _ rfl).2
  have h2 : s.vm.findClass ("[" ++ (FieldType.int).toString) = some cB := (h.2 1 _ rfl).2
  exact Option.some.inj (h1.symm.trans h2)
def ki_B (D : va_G) (cA : ClassId) (ws : va_W) (sz : Nat) (U : State) : Prop := U.heap.size = sz ∧ va_P D vwCl ws U.heap ∧ va_K D vwCl [(cA, .int)] U ∧ va_D (fun _ => True) ws
def ki_Q (D : va_G) (cells : (Nat → Nat) → va_W) (A : Nat → Prop) : Array Value → State → Outcome → State → Prop := va_Qv (fun _ : Nat → Nat => True) (fun u t => va_P D vwCl (cells u) t.heap ∧ va_D A (cells u)) A
theorem ki_blind {D : va_G} {cA : ClassId} {as : List Value} {ws : va_W} {sz : Nat} : FrameBlind (va_Pc as (ki_B D cA ws sz)) := by
  intro a U g mk q
  obtain ⟨q0, q1, qP, qK, qD⟩ := q
  exact ⟨q0, q1, qP, va_K.moved (u := U) (U := U.calling g mk a) (Vm.Alike.refl U.vm) qK, qD⟩

set_option maxHeartbeats 4000000 in
set_option maxRecDepth 100000 in
theorem ci_X4_init (l : Launch) (D : va_G) (cA : ClassId) (h0 sz : Nat) : Met l yX4_init (Cond.code yX4_init cX4_init 1 none :: lwg) { frames := 1, cells := 2, slots := 240, locals := 12 } (va_Pc [.ref h0] (ki_B D cA [(h0, .inr (4, [.null, .null, .int (Int32.ofInt 0)]))] sz)) (ki_Q D (fun u => [(h0, .inr (4, [.ref (u 0), .ref (u 1), .int (Int32.ofInt 0)])), (u 0, .inl (cA, 120, .inl (fun _ => Int32.ofInt 0))), (u 1, .inl (cA, 120, .inl (fun _ => Int32.ofInt 0)))]) (va_A [(h0, .inr (4, [.null, .null, .int (Int32.ofInt 0)]))] sz)) 2 240 (va_A [(h0, .inr (4, [.null, .null, .int (Int32.ofInt 0)]))] sz) := by
  refine Met.ofW (cc := cX4_init) (maxL := 1) (ret := none) (by decide) rfl ?_
  intro p e s m args below meth c s₁ B hml hv
  obtain ⟨rfl, hsz, hP, hK, hD0⟩ := hv
  have hx := B.exec
  have hb := B.bytes
  have hr := B.returns
  have hts0 := atoms_spec (ws := Cond.code yX4_init cX4_init 1 none :: lwg) B.pre
  have hts : ∀ w ∈ lwg, w.before _ s = true := fun w hw => hts0 w (List.mem_cons_of_mem _ hw)
  have hown : s.vm.findClass RX4 = some m.cls := findClass_of_methodNamed B.named
  have hlocks := B.notSynchronized
  have hin : meth.name = "<init>" := (name_of_methodNamed B.named B.method).1
  subst hsz
  have hD := hD0.self (sz := s.heap.size)
  generalize hAe : va_A [(h0, .inr (4, [.null, .null, .int (Int32.ofInt 0)]))] s.heap.size = A at hD ⊢
  have hA : ∀ q : Nat, s.heap.size ≤ q → A q := fun q h => by rw [← hAe]; exact Or.inr h
  have hS : va_S A s.heap s.heap [] := va_S.rf
  have hl := lv_entry ([.ref h0]) (n := 1) (Nat.le_of_ble_eq_true rfl)
  rw [lg_entry_eq]
  generalize (lg_sl ([.ref h0]) ++ List.replicate (1 - (lg_sl ([.ref h0])).length) Slot.unset).toArray = ls at hl ⊢
  have hl : lv_has ls 1 [(0, .ref h0)] := hl
  refine lv_aload_n hx hb dX4_init_0 rfl (lv_at hl 0 rfl) ?_
  refine W.objInit hx hb hown (hts _ (lwg_of 95 (by decide +kernel) rfl)) (hts _ (lwg_of 21 (by decide +kernel) rfl)) (hts _ (lwg_of 22 (by decide +kernel) rfl)) rfl (by rw [hml]; exact hl.1) rfl dX4_init_1 (Nat.le_of_ble_eq_true rfl) (Nat.le_of_ble_eq_true rfl) ?_
  refine W.eq (g2 := F0 m 4 ls []) rfl ?_
  refine lv_aload_n hx hb dX4_init_4 rfl (lv_at hl 0 rfl) ?_
  refine lv_bipush hx hb dX4_init_5 (ra_b8 (n := 120) (by decide)) ?_
  refine va_newa (ty := .int) (a0 := (120, .inl (fun _ => Int32.ofInt 0))) (N' := 120) hx hb (hts _ (lwg_of 89 (by decide +kernel) rfl)) rfl hK hP hD hS hA (fun _ => rfl) (by decide) (by decide) (by decide) (Nat.le_of_ble_eq_true rfl) (Nat.le_of_ble_eq_true rfl) dX4_init_7 (fun q7 cB H hK2 hP hD hS => ?_)
  obtain rfl : cA = cB := ki_one hK2
  have hP : va_P D vwCl [(h0, .inr (4, [.null, .null, .int (Int32.ofInt 0)])), (q7, .inl (cA, 120, .inl (fun _ => Int32.ofInt 0)))] H := hP
  have hD : va_D A [(h0, .inr (4, [.null, .null, .int (Int32.ofInt 0)])), (q7, .inl (cA, 120, .inl (fun _ => Int32.ofInt 0)))] := hD
  refine va_putF (D := D) (ci := 4) (v := .ref q7) (ty := (.array .int)) (C := RX4) (T := TX4) (N := 3) hx hb hts (ra_clsfacts 4 RX4 TX4 3 rfl).1 tyX4 tyX4_ok nmX4 hown hK hP hD hS 0 rfl rfl 0 (by decide) (hts _ (lwg_of 96 (by decide +kernel) rfl)) (fun _ h9 => h9) rfl hin rfl (by decide +kernel) rfl rfl (Nat.le_of_ble_eq_true rfl) dX4_init_9 (fun H locs hP hD hS => ?_)
  have hP : va_P D vwCl [(h0, .inr (4, [.ref q7, .null, .int (Int32.ofInt 0)])), (q7, .inl (cA, 120, .inl (fun _ => Int32.ofInt 0)))] H := hP
  have hD : va_D A [(h0, .inr (4, [.ref q7, .null, .int (Int32.ofInt 0)])), (q7, .inl (cA, 120, .inl (fun _ => Int32.ofInt 0)))] := hD
  refine lv_aload_n hx hb dX4_init_12 rfl (lv_at hl 0 rfl) ?_
  refine lv_bipush hx hb dX4_init_13 (ra_b8 (n := 120) (by decide)) ?_
  refine va_newa (ty := .int) (a0 := (120, .inl (fun _ => Int32.ofInt 0))) (N' := 120) hx hb (hts _ (lwg_of 89 (by decide +kernel) rfl)) rfl hK hP hD hS hA (fun _ => rfl) (by decide) (by decide) (by decide) (Nat.le_of_ble_eq_true rfl) (Nat.le_of_ble_eq_true rfl) dX4_init_15 (fun q15 cB H hK2 hP hD hS => ?_)
  obtain rfl : cA = cB := ki_one hK2
  have hP : va_P D vwCl [(h0, .inr (4, [.ref q7, .null, .int (Int32.ofInt 0)])), (q7, .inl (cA, 120, .inl (fun _ => Int32.ofInt 0))), (q15, .inl (cA, 120, .inl (fun _ => Int32.ofInt 0)))] H := hP
  have hD : va_D A [(h0, .inr (4, [.ref q7, .null, .int (Int32.ofInt 0)])), (q7, .inl (cA, 120, .inl (fun _ => Int32.ofInt 0))), (q15, .inl (cA, 120, .inl (fun _ => Int32.ofInt 0)))] := hD
  refine va_putF (D := D) (ci := 4) (v := .ref q15) (ty := (.array .int)) (C := RX4) (T := TX4) (N := 3) hx hb hts (ra_clsfacts 4 RX4 TX4 3 rfl).1 tyX4 tyX4_ok nmX4 hown hK hP hD hS 0 rfl rfl 1 (by decide) (hts _ (lwg_of 100 (by decide +kernel) rfl)) (fun _ h9 => h9) rfl hin rfl (by decide +kernel) rfl rfl (Nat.le_of_ble_eq_true rfl) dX4_init_17 (fun H locs hP hD hS => ?_)
  have hP : va_P D vwCl [(h0, .inr (4, [.ref q7, .ref q15, .int (Int32.ofInt 0)])), (q7, .inl (cA, 120, .inl (fun _ => Int32.ofInt 0))), (q15, .inl (cA, 120, .inl (fun _ => Int32.ofInt 0)))] H := hP
  have hD : va_D A [(h0, .inr (4, [.ref q7, .ref q15, .int (Int32.ofInt 0)])), (q7, .inl (cA, 120, .inl (fun _ => Int32.ofInt 0))), (q15, .inl (cA, 120, .inl (fun _ => Int32.ofInt 0)))] := hD
  refine W.widen (k := 2) (n := 240) (Nat.le_of_ble_eq_true rfl) (Nat.le_of_ble_eq_true rfl) ?_
  exact W.vret hx hb hr (fun t ht hW => ⟨⟨fun i => [q7, q15].getD i 0, rfl, trivial, by rw [ht]; exact hP, hD⟩, hS.F ht⟩) hS.2.2 dX4_init_20

set_option maxHeartbeats 4000000 in
set_option maxRecDepth 100000 in
theorem ci_X5_init (l : Launch) (D : va_G) (cA : ClassId) (h0 a1 sz : Nat) : Met l yX5_init (Cond.code yX5_init cX5_init 2 none :: lwg) { frames := 1, cells := 4, slots := 284, locals := 12 } (va_Pc [.ref h0, .ref a1] (ki_B D cA [(h0, .inr (5, [.null, .null, .null, .null, .null, .int (Int32.ofInt 0)]))] sz)) (ki_Q D (fun u => [(h0, .inr (5, [.ref a1, .ref (u 0), .ref (u 1), .ref (u 2), .ref (u 3), .int (Int32.ofInt 0)])), (u 0, .inl (cA, 74, .inl (fun _ => Int32.ofInt 0))), (u 1, .inl (cA, 74, .inl (fun _ => Int32.ofInt 0))), (u 2, .inl (cA, 74, .inl (fun _ => Int32.ofInt 0))), (u 3, .inl (cA, 62, .inl (fun _ => Int32.ofInt 0)))]) (va_A [(h0, .inr (5, [.null, .null, .null, .null, .null, .int (Int32.ofInt 0)]))] sz)) 4 284 (va_A [(h0, .inr (5, [.null, .null, .null, .null, .null, .int (Int32.ofInt 0)]))] sz) := by
  refine Met.ofW (cc := cX5_init) (maxL := 2) (ret := none) (by decide) rfl ?_
  intro p e s m args below meth c s₁ B hml hv
  obtain ⟨rfl, hsz, hP, hK, hD0⟩ := hv
  have hx := B.exec
  have hb := B.bytes
  have hr := B.returns
  have hts0 := atoms_spec (ws := Cond.code yX5_init cX5_init 2 none :: lwg) B.pre
  have hts : ∀ w ∈ lwg, w.before _ s = true := fun w hw => hts0 w (List.mem_cons_of_mem _ hw)
  have hown : s.vm.findClass RX5 = some m.cls := findClass_of_methodNamed B.named
  have hlocks := B.notSynchronized
  have hin : meth.name = "<init>" := (name_of_methodNamed B.named B.method).1
  subst hsz
  have hD := hD0.self (sz := s.heap.size)
  generalize hAe : va_A [(h0, .inr (5, [.null, .null, .null, .null, .null, .int (Int32.ofInt 0)]))] s.heap.size = A at hD ⊢
  have hA : ∀ q : Nat, s.heap.size ≤ q → A q := fun q h => by rw [← hAe]; exact Or.inr h
  have hS : va_S A s.heap s.heap [] := va_S.rf
  have hl := lv_entry ([.ref h0, .ref a1]) (n := 2) (Nat.le_of_ble_eq_true rfl)
  rw [lg_entry_eq]
  generalize (lg_sl ([.ref h0, .ref a1]) ++ List.replicate (2 - (lg_sl ([.ref h0, .ref a1])).length) Slot.unset).toArray = ls at hl ⊢
  have hl : lv_has ls 2 [(0, .ref h0), (1, .ref a1)] := hl
  refine lv_aload_n hx hb dX5_init_0 rfl (lv_at hl 0 rfl) ?_
  refine W.objInit hx hb hown (hts _ (lwg_of 117 (by decide +kernel) rfl)) (hts _ (lwg_of 21 (by decide +kernel) rfl)) (hts _ (lwg_of 22 (by decide +kernel) rfl)) rfl (by rw [hml]; exact hl.1) rfl dX5_init_1 (Nat.le_of_ble_eq_true rfl) (Nat.le_of_ble_eq_true rfl) ?_
  refine W.eq (g2 := F0 m 4 ls []) rfl ?_
  refine lv_aload_n hx hb dX5_init_4 rfl (lv_at hl 0 rfl) ?_
  refine lv_bipush hx hb dX5_init_5 (ra_b8 (n := 74) (by decide)) ?_
  refine va_newa (ty := .int) (a0 := (74, .inl (fun _ => Int32.ofInt 0))) (N' := 74) hx hb (hts _ (lwg_of 89 (by decide +kernel) rfl)) rfl hK hP hD hS hA (fun _ => rfl) (by decide) (by decide) (by decide) (Nat.le_of_ble_eq_true rfl) (Nat.le_of_ble_eq_true rfl) dX5_init_7 (fun q7 cB H hK2 hP hD hS => ?_)
  obtain rfl : cA = cB := ki_one hK2
  have hP : va_P D vwCl [(h0, .inr (5, [.null, .null, .null, .null, .null, .int (Int32.ofInt 0)])), (q7, .inl (cA, 74, .inl (fun _ => Int32.ofInt 0)))] H := hP
  have hD : va_D A [(h0, .inr (5, [.null, .null, .null, .null, .null, .int (Int32.ofInt 0)])), (q7, .inl (cA, 74, .inl (fun _ => Int32.ofInt 0)))] := hD
  refine va_putF (D := D) (ci := 5) (v := .ref q7) (ty := (.array .int)) (C := RX5) (T := TX5) (N := 6) hx hb hts (ra_clsfacts 5 RX5 TX5 6 rfl).1 tyX5 tyX5_ok nmX5 hown hK hP hD hS 0 rfl rfl 1 (by decide) (hts _ (lwg_of 119 (by decide +kernel) rfl)) (fun _ h9 => h9) rfl hin rfl (by decide +kernel) rfl rfl (Nat.le_of_ble_eq_true rfl) dX5_init_9 (fun H locs hP hD hS => ?_)
  have hP : va_P D vwCl [(h0, .inr (5, [.null, .ref q7, .null, .null, .null, .int (Int32.ofInt 0)])), (q7, .inl (cA, 74, .inl (fun _ => Int32.ofInt 0)))] H := hP
  have hD : va_D A [(h0, .inr (5, [.null, .ref q7, .null, .null, .null, .int (Int32.ofInt 0)])), (q7, .inl (cA, 74, .inl (fun _ => Int32.ofInt 0)))] := hD
  refine lv_aload_n hx hb dX5_init_12 rfl (lv_at hl 0 rfl) ?_
  refine lv_bipush hx hb dX5_init_13 (ra_b8 (n := 74) (by decide)) ?_
  refine va_newa (ty := .int) (a0 := (74, .inl (fun _ => Int32.ofInt 0))) (N' := 74) hx hb (hts _ (lwg_of 89 (by decide +kernel) rfl)) rfl hK hP hD hS hA (fun _ => rfl) (by decide) (by decide) (by decide) (Nat.le_of_ble_eq_true rfl) (Nat.le_of_ble_eq_true rfl) dX5_init_15 (fun q15 cB H hK2 hP hD hS => ?_)
  obtain rfl : cA = cB := ki_one hK2
  have hP : va_P D vwCl [(h0, .inr (5, [.null, .ref q7, .null, .null, .null, .int (Int32.ofInt 0)])), (q7, .inl (cA, 74, .inl (fun _ => Int32.ofInt 0))), (q15, .inl (cA, 74, .inl (fun _ => Int32.ofInt 0)))] H := hP
  have hD : va_D A [(h0, .inr (5, [.null, .ref q7, .null, .null, .null, .int (Int32.ofInt 0)])), (q7, .inl (cA, 74, .inl (fun _ => Int32.ofInt 0))), (q15, .inl (cA, 74, .inl (fun _ => Int32.ofInt 0)))] := hD
  refine va_putF (D := D) (ci := 5) (v := .ref q15) (ty := (.array .int)) (C := RX5) (T := TX5) (N := 6) hx hb hts (ra_clsfacts 5 RX5 TX5 6 rfl).1 tyX5 tyX5_ok nmX5 hown hK hP hD hS 0 rfl rfl 2 (by decide) (hts _ (lwg_of 122 (by decide +kernel) rfl)) (fun _ h9 => h9) rfl hin rfl (by decide +kernel) rfl rfl (Nat.le_of_ble_eq_true rfl) dX5_init_17 (fun H locs hP hD hS => ?_)
  have hP : va_P D vwCl [(h0, .inr (5, [.null, .ref q7, .ref q15, .null, .null, .int (Int32.ofInt 0)])), (q7, .inl (cA, 74, .inl (fun _ => Int32.ofInt 0))), (q15, .inl (cA, 74, .inl (fun _ => Int32.ofInt 0)))] H := hP
  have hD : va_D A [(h0, .inr (5, [.null, .ref q7, .ref q15, .null, .null, .int (Int32.ofInt 0)])), (q7, .inl (cA, 74, .inl (fun _ => Int32.ofInt 0))), (q15, .inl (cA, 74, .inl (fun _ => Int32.ofInt 0)))] := hD
  refine lv_aload_n hx hb dX5_init_20 rfl (lv_at hl 0 rfl) ?_
  refine lv_bipush hx hb dX5_init_21 (ra_b8 (n := 74) (by decide)) ?_
  refine va_newa (ty := .int) (a0 := (74, .inl (fun _ => Int32.ofInt 0))) (N' := 74) hx hb (hts _ (lwg_of 89 (by decide +kernel) rfl)) rfl hK hP hD hS hA (fun _ => rfl) (by decide) (by decide) (by decide) (Nat.le_of_ble_eq_true rfl) (Nat.le_of_ble_eq_true rfl) dX5_init_23 (fun q23 cB H hK2 hP hD hS => ?_)
  obtain rfl : cA = cB := ki_one hK2
  have hP : va_P D vwCl [(h0, .inr (5, [.null, .ref q7, .ref q15, .null, .null, .int (Int32.ofInt 0)])), (q7, .inl (cA, 74, .inl (fun _ => Int32.ofInt 0))), (q15, .inl (cA, 74, .inl (fun _ => Int32.ofInt 0))), (q23, .inl (cA, 74, .inl (fun _ => Int32.ofInt 0)))] H := hP
  have hD : va_D A [(h0, .inr (5, [.null, .ref q7, .ref q15, .null, .null, .int (Int32.ofInt 0)])), (q7, .inl (cA, 74, .inl (fun _ => Int32.ofInt 0))), (q15, .inl (cA, 74, .inl (fun _ => Int32.ofInt 0))), (q23, .inl (cA, 74, .inl (fun _ => Int32.ofInt 0)))] := hD
  refine va_putF (D := D) (ci := 5) (v := .ref q23) (ty := (.array .int)) (C := RX5) (T := TX5) (N := 6) hx hb hts (ra_clsfacts 5 RX5 TX5 6 rfl).1 tyX5 tyX5_ok nmX5 hown hK hP hD hS 0 rfl rfl 3 (by decide) (hts _ (lwg_of 125 (by decide +kernel) rfl)) (fun _ h9 => h9) rfl hin rfl (by decide +kernel) rfl rfl (Nat.le_of_ble_eq_true rfl) dX5_init_25 (fun H locs hP hD hS => ?_)
  have hP : va_P D vwCl [(h0, .inr (5, [.null, .ref q7, .ref q15, .ref q23, .null, .int (Int32.ofInt 0)])), (q7, .inl (cA, 74, .inl (fun _ => Int32.ofInt 0))), (q15, .inl (cA, 74, .inl (fun _ => Int32.ofInt 0))), (q23, .inl (cA, 74, .inl (fun _ => Int32.ofInt 0)))] H := hP
  have hD : va_D A [(h0, .inr (5, [.null, .ref q7, .ref q15, .ref q23, .null, .int (Int32.ofInt 0)])), (q7, .inl (cA, 74, .inl (fun _ => Int32.ofInt 0))), (q15, .inl (cA, 74, .inl (fun _ => Int32.ofInt 0))), (q23, .inl (cA, 74, .inl (fun _ => Int32.ofInt 0)))] := hD
  refine lv_aload_n hx hb dX5_init_28 rfl (lv_at hl 0 rfl) ?_
  refine lv_bipush hx hb dX5_init_29 (ra_b8 (n := 62) (by decide)) ?_
  refine va_newa (ty := .int) (a0 := (62, .inl (fun _ => Int32.ofInt 0))) (N' := 62) hx hb (hts _ (lwg_of 89 (by decide +kernel) rfl)) rfl hK hP hD hS hA (fun _ => rfl) (by decide) (by decide) (by decide) (Nat.le_of_ble_eq_true rfl) (Nat.le_of_ble_eq_true rfl) dX5_init_31 (fun q31 cB H hK2 hP hD hS => ?_)
  obtain rfl : cA = cB := ki_one hK2
  have hP : va_P D vwCl [(h0, .inr (5, [.null, .ref q7, .ref q15, .ref q23, .null, .int (Int32.ofInt 0)])), (q7, .inl (cA, 74, .inl (fun _ => Int32.ofInt 0))), (q15, .inl (cA, 74, .inl (fun _ => Int32.ofInt 0))), (q23, .inl (cA, 74, .inl (fun _ => Int32.ofInt 0))), (q31, .inl (cA, 62, .inl (fun _ => Int32.ofInt 0)))] H := hP
  have hD : va_D A [(h0, .inr (5, [.null, .ref q7, .ref q15, .ref q23, .null, .int (Int32.ofInt 0)])), (q7, .inl (cA, 74, .inl (fun _ => Int32.ofInt 0))), (q15, .inl (cA, 74, .inl (fun _ => Int32.ofInt 0))), (q23, .inl (cA, 74, .inl (fun _ => Int32.ofInt 0))), (q31, .inl (cA, 62, .inl (fun _ => Int32.ofInt 0)))] := hD
  refine va_putF (D := D) (ci := 5) (v := .ref q31) (ty := (.array .int)) (C := RX5) (T := TX5) (N := 6) hx hb hts (ra_clsfacts 5 RX5 TX5 6 rfl).1 tyX5 tyX5_ok nmX5 hown hK hP hD hS 0 rfl rfl 4 (by decide) (hts _ (lwg_of 128 (by decide +kernel) rfl)) (fun _ h9 => h9) rfl hin rfl (by decide +kernel) rfl rfl (Nat.le_of_ble_eq_true rfl) dX5_init_33 (fun H locs hP hD hS => ?_)
  have hP : va_P D vwCl [(h0, .inr (5, [.null, .ref q7, .ref q15, .ref q23, .ref q31, .int (Int32.ofInt 0)])), (q7, .inl (cA, 74, .inl (fun _ => Int32.ofInt 0))), (q15, .inl (cA, 74, .inl (fun _ => Int32.ofInt 0))), (q23, .inl (cA, 74, .inl (fun _ => Int32.ofInt 0))), (q31, .inl (cA, 62, .inl (fun _ => Int32.ofInt 0)))] H := hP
  have hD : va_D A [(h0, .inr (5, [.null, .ref q7, .ref q15, .ref q23, .ref q31, .int (Int32.ofInt 0)])), (q7, .inl (cA, 74, .inl (fun _ => Int32.ofInt 0))), (q15, .inl (cA, 74, .inl (fun _ => Int32.ofInt 0))), (q23, .inl (cA, 74, .inl (fun _ => Int32.ofInt 0))), (q31, .inl (cA, 62, .inl (fun _ => Int32.ofInt 0)))] := hD
  refine lv_aload_n hx hb dX5_init_36 rfl (lv_at hl 0 rfl) ?_
  refine lv_aload_n hx hb dX5_init_37 rfl (lv_at hl 1 rfl) ?_
  refine va_putF (D := D) (ci := 5) (v := .ref a1) (ty := (.object "FollowScore$Score")) (C := RX5) (T := TX5) (N := 6) hx hb hts (ra_clsfacts 5 RX5 TX5 6 rfl).1 tyX5 tyX5_ok nmX5 hown hK hP hD hS 0 rfl rfl 0 (by decide) (hts _ (lwg_of 118 (by decide +kernel) rfl)) (fun _ h9 => h9) rfl hin rfl (by decide +kernel) rfl rfl (Nat.le_of_ble_eq_true rfl) dX5_init_38 (fun H locs hP hD hS => ?_)
  have hP : va_P D vwCl [(h0, .inr (5, [.ref a1, .ref q7, .ref q15, .ref q23, .ref q31, .int (Int32.ofInt 0)])), (q7, .inl (cA, 74, .inl (fun _ => Int32.ofInt 0))), (q15, .inl (cA, 74, .inl (fun _ => Int32.ofInt 0))), (q23, .inl (cA, 74, .inl (fun _ => Int32.ofInt 0))), (q31, .inl (cA, 62, .inl (fun _ => Int32.ofInt 0)))] H := hP
  have hD : va_D A [(h0, .inr (5, [.ref a1, .ref q7, .ref q15, .ref q23, .ref q31, .int (Int32.ofInt 0)])), (q7, .inl (cA, 74, .inl (fun _ => Int32.ofInt 0))), (q15, .inl (cA, 74, .inl (fun _ => Int32.ofInt 0))), (q23, .inl (cA, 74, .inl (fun _ => Int32.ofInt 0))), (q31, .inl (cA, 62, .inl (fun _ => Int32.ofInt 0)))] := hD
  refine W.widen (k := 4) (n := 284) (Nat.le_of_ble_eq_true rfl) (Nat.le_of_ble_eq_true rfl) ?_
  exact W.vret hx hb hr (fun t ht hW => ⟨⟨fun i => [q7, q15, q23, q31].getD i 0, rfl, trivial, by rw [ht]; exact hP, hD⟩, hS.F ht⟩) hS.2.2 dX5_init_41

set_option maxHeartbeats 4000000 in
set_option maxRecDepth 100000 in
theorem ci_X0_init (l : Launch) (D : va_G) (cA : ClassId) (h0 a1 a2 sz : Nat) : Met l yX0_init (Cond.code yX0_init cX0_init 3 none :: lwg) { frames := 1, cells := 2, slots := 120, locals := 12 } (va_Pc [.ref h0, .ref a1, .ref a2] (ki_B D cA [(h0, .inr (0, [.null, .null, .null, .null, .int (Int32.ofInt 0)]))] sz)) (ki_Q D (fun u => [(h0, .inr (0, [.ref a1, .ref a2, .ref (u 0), .ref (u 1), .int (Int32.ofInt 0)])), (u 0, .inl (cA, 60, .inl (fun _ => Int32.ofInt 0))), (u 1, .inl (cA, 60, .inl (fun _ => Int32.ofInt 0)))]) (va_A [(h0, .inr (0, [.null, .null, .null, .null, .int (Int32.ofInt 0)]))] sz)) 2 120 (va_A [(h0, .inr (0, [.null, .null, .null, .null, .int (Int32.ofInt 0)]))] sz) := by
  refine Met.ofW (cc := cX0_init) (maxL := 3) (ret := none) (by decide) rfl ?_
  intro p e s m args below meth c s₁ B hml hv
  obtain ⟨rfl, hsz, hP, hK, hD0⟩ := hv
  have hx := B.exec
  have hb := B.bytes
  have hr := B.returns
  have hts0 := atoms_spec (ws := Cond.code yX0_init cX0_init 3 none :: lwg) B.pre
  have hts : ∀ w ∈ lwg, w.before _ s = true := fun w hw => hts0 w (List.mem_cons_of_mem _ hw)
  have hown : s.vm.findClass RX0 = some m.cls := findClass_of_methodNamed B.named
  have hlocks := B.notSynchronized
  have hin : meth.name = "<init>" := (name_of_methodNamed B.named B.method).1
  subst hsz
  have hD := hD0.self (sz := s.heap.size)
  generalize hAe : va_A [(h0, .inr (0, [.null, .null, .null, .null, .int (Int32.ofInt 0)]))] s.heap.size = A at hD ⊢
  have hA : ∀ q : Nat, s.heap.size ≤ q → A q := fun q h => by rw [← hAe]; exact Or.inr h
  have hS : va_S A s.heap s.heap [] := va_S.rf
  have hl := lv_entry ([.ref h0, .ref a1, .ref a2]) (n := 3) (Nat.le_of_ble_eq_true rfl)
  rw [lg_entry_eq]
  generalize (lg_sl ([.ref h0, .ref a1, .ref a2]) ++ List.replicate (3 - (lg_sl ([.ref h0, .ref a1, .ref a2])).length) Slot.unset).toArray = ls at hl ⊢
  have hl : lv_has ls 3 [(0, .ref h0), (1, .ref a1), (2, .ref a2)] := hl
  refine lv_aload_n hx hb dX0_init_0 rfl (lv_at hl 0 rfl) ?_
  refine W.objInit hx hb hown (hts _ (lwg_of 181 (by decide +kernel) rfl)) (hts _ (lwg_of 21 (by decide +kernel) rfl)) (hts _ (lwg_of 22 (by decide +kernel) rfl)) rfl (by rw [hml]; exact hl.1) rfl dX0_init_1 (Nat.le_of_ble_eq_true rfl) (Nat.le_of_ble_eq_true rfl) ?_
  refine W.eq (g2 := F0 m 4 ls []) rfl ?_
  refine lv_aload_n hx hb dX0_init_4 rfl (lv_at hl 0 rfl) ?_
  refine lv_bipush hx hb dX0_init_5 (ra_b8 (n := 60) (by decide)) ?_
  refine va_newa (ty := .int) (a0 := (60, .inl (fun _ => Int32.ofInt 0))) (N' := 60) hx hb (hts _ (lwg_of 89 (by decide +kernel) rfl)) rfl hK hP hD hS hA (fun _ => rfl) (by decide) (by decide) (by decide) (Nat.le_of_ble_eq_true rfl) (Nat.le_of_ble_eq_true rfl) dX0_init_7 (fun q7 cB H hK2 hP hD hS => ?_)
  obtain rfl : cA = cB := ki_one hK2
  have hP : va_P D vwCl [(h0, .inr (0, [.null, .null, .null, .null, .int (Int32.ofInt 0)])), (q7, .inl (cA, 60, .inl (fun _ => Int32.ofInt 0)))] H := hP
  have hD : va_D A [(h0, .inr (0, [.null, .null, .null, .null, .int (Int32.ofInt 0)])), (q7, .inl (cA, 60, .inl (fun _ => Int32.ofInt 0)))] := hD
  refine va_putF (D := D) (ci := 0) (v := .ref q7) (ty := (.array .int)) (C := RX0) (T := TX0) (N := 5) hx hb hts (ra_clsfacts 0 RX0 TX0 5 rfl).1 tyX0 tyX0_ok nmX0 hown hK hP hD hS 0 rfl rfl 2 (by decide) (hts _ (lwg_of 184 (by decide +kernel) rfl)) (fun _ h9 => h9) rfl hin rfl (by decide +kernel) rfl rfl (Nat.le_of_ble_eq_true rfl) dX0_init_9 (fun H locs hP hD hS => ?_)
  have hP : va_P D vwCl [(h0, .inr (0, [.null, .null, .ref q7, .null, .int (Int32.ofInt 0)])), (q7, .inl (cA, 60, .inl (fun _ => Int32.ofInt 0)))] H := hP
  have hD : va_D A [(h0, .inr (0, [.null, .null, .ref q7, .null, .int (Int32.ofInt 0)])), (q7, .inl (cA, 60, .inl (fun _ => Int32.ofInt 0)))] := hD
  refine lv_aload_n hx hb dX0_init_12 rfl (lv_at hl 0 rfl) ?_
  refine lv_bipush hx hb dX0_init_13 (ra_b8 (n := 60) (by decide)) ?_
  refine va_newa (ty := .int) (a0 := (60, .inl (fun _ => Int32.ofInt 0))) (N' := 60) hx hb (hts _ (lwg_of 89 (by decide +kernel) rfl)) rfl hK hP hD hS hA (fun _ => rfl) (by decide) (by decide) (by decide) (Nat.le_of_ble_eq_true rfl) (Nat.le_of_ble_eq_true rfl) dX0_init_15 (fun q15 cB H hK2 hP hD hS => ?_)
  obtain rfl : cA = cB := ki_one hK2
  have hP : va_P D vwCl [(h0, .inr (0, [.null, .null, .ref q7, .null, .int (Int32.ofInt 0)])), (q7, .inl (cA, 60, .inl (fun _ => Int32.ofInt 0))), (q15, .inl (cA, 60, .inl (fun _ => Int32.ofInt 0)))] H := hP
  have hD : va_D A [(h0, .inr (0, [.null, .null, .ref q7, .null, .int (Int32.ofInt 0)])), (q7, .inl (cA, 60, .inl (fun _ => Int32.ofInt 0))), (q15, .inl (cA, 60, .inl (fun _ => Int32.ofInt 0)))] := hD
  refine va_putF (D := D) (ci := 0) (v := .ref q15) (ty := (.array .int)) (C := RX0) (T := TX0) (N := 5) hx hb hts (ra_clsfacts 0 RX0 TX0 5 rfl).1 tyX0 tyX0_ok nmX0 hown hK hP hD hS 0 rfl rfl 3 (by decide) (hts _ (lwg_of 185 (by decide +kernel) rfl)) (fun _ h9 => h9) rfl hin rfl (by decide +kernel) rfl rfl (Nat.le_of_ble_eq_true rfl) dX0_init_17 (fun H locs hP hD hS => ?_)
  have hP : va_P D vwCl [(h0, .inr (0, [.null, .null, .ref q7, .ref q15, .int (Int32.ofInt 0)])), (q7, .inl (cA, 60, .inl (fun _ => Int32.ofInt 0))), (q15, .inl (cA, 60, .inl (fun _ => Int32.ofInt 0)))] H := hP
  have hD : va_D A [(h0, .inr (0, [.null, .null, .ref q7, .ref q15, .int (Int32.ofInt 0)])), (q7, .inl (cA, 60, .inl (fun _ => Int32.ofInt 0))), (q15, .inl (cA, 60, .inl (fun _ => Int32.ofInt 0)))] := hD
  refine lv_aload_n hx hb dX0_init_20 rfl (lv_at hl 0 rfl) ?_
  refine lv_aload_n hx hb dX0_init_21 rfl (lv_at hl 1 rfl) ?_
  refine va_putF (D := D) (ci := 0) (v := .ref a1) (ty := (.object "FollowScore$Score")) (C := RX0) (T := TX0) (N := 5) hx hb hts (ra_clsfacts 0 RX0 TX0 5 rfl).1 tyX0 tyX0_ok nmX0 hown hK hP hD hS 0 rfl rfl 0 (by decide) (hts _ (lwg_of 182 (by decide +kernel) rfl)) (fun _ h9 => h9) rfl hin rfl (by decide +kernel) rfl rfl (Nat.le_of_ble_eq_true rfl) dX0_init_22 (fun H locs hP hD hS => ?_)
  have hP : va_P D vwCl [(h0, .inr (0, [.ref a1, .null, .ref q7, .ref q15, .int (Int32.ofInt 0)])), (q7, .inl (cA, 60, .inl (fun _ => Int32.ofInt 0))), (q15, .inl (cA, 60, .inl (fun _ => Int32.ofInt 0)))] H := hP
  have hD : va_D A [(h0, .inr (0, [.ref a1, .null, .ref q7, .ref q15, .int (Int32.ofInt 0)])), (q7, .inl (cA, 60, .inl (fun _ => Int32.ofInt 0))), (q15, .inl (cA, 60, .inl (fun _ => Int32.ofInt 0)))] := hD
  refine lv_aload_n hx hb dX0_init_25 rfl (lv_at hl 0 rfl) ?_
  refine lv_aload_n hx hb dX0_init_26 rfl (lv_at hl 2 rfl) ?_
  refine va_putF (D := D) (ci := 0) (v := .ref a2) (ty := (.object "FollowScore$Heard")) (C := RX0) (T := TX0) (N := 5) hx hb hts (ra_clsfacts 0 RX0 TX0 5 rfl).1 tyX0 tyX0_ok nmX0 hown hK hP hD hS 0 rfl rfl 1 (by decide) (hts _ (lwg_of 183 (by decide +kernel) rfl)) (fun _ h9 => h9) rfl hin rfl (by decide +kernel) rfl rfl (Nat.le_of_ble_eq_true rfl) dX0_init_27 (fun H locs hP hD hS => ?_)
  have hP : va_P D vwCl [(h0, .inr (0, [.ref a1, .ref a2, .ref q7, .ref q15, .int (Int32.ofInt 0)])), (q7, .inl (cA, 60, .inl (fun _ => Int32.ofInt 0))), (q15, .inl (cA, 60, .inl (fun _ => Int32.ofInt 0)))] H := hP
  have hD : va_D A [(h0, .inr (0, [.ref a1, .ref a2, .ref q7, .ref q15, .int (Int32.ofInt 0)])), (q7, .inl (cA, 60, .inl (fun _ => Int32.ofInt 0))), (q15, .inl (cA, 60, .inl (fun _ => Int32.ofInt 0)))] := hD
  refine W.widen (k := 2) (n := 120) (Nat.le_of_ble_eq_true rfl) (Nat.le_of_ble_eq_true rfl) ?_
  exact W.vret hx hb hr (fun t ht hW => ⟨⟨fun i => [q7, q15].getD i 0, rfl, trivial, by rw [ht]; exact hP, hD⟩, hS.F ht⟩) hS.2.2 dX0_init_30

set_option maxHeartbeats 4000000 in
set_option maxRecDepth 100000 in
theorem ci_X1_init (l : Launch) (D : va_G) (cA : ClassId) (h0 a1 a2 a3 sz : Nat) : Met l yX1_init (Cond.code yX1_init cX1_init 4 none :: lwg) { frames := 1, cells := 7, slots := 7921, locals := 12 } (va_Pc [.ref h0, .ref a1, .ref a2, .ref a3] (ki_B D cA [(h0, .inr (1, [.null, .null, .null, .null, .null, .null, .null, .null, .null, .null, .int (Int32.ofInt 0), .int (Int32.ofInt 0), .int (Int32.ofInt 0), .int (Int32.ofInt 0), .int (Int32.ofInt 0), .int (Int32.ofInt 0)]))] sz)) (ki_Q D (fun u => [(h0, .inr (1, [.ref a1, .ref a2, .ref a3, .ref (u 0), .ref (u 1), .ref (u 2), .ref (u 3), .ref (u 4), .ref (u 5), .ref (u 6), .int (Int32.ofInt 0), .int (Int32.ofInt 0), .int (Int32.ofInt 0), .int (Int32.ofInt 0), .int (Int32.ofInt 0), .int (Int32.ofInt 0)])), (u 0, .inl (cA, 7381, .inl (fun _ => Int32.ofInt 0))), (u 1, .inl (cA, 120, .inl (fun _ => Int32.ofInt 0))), (u 2, .inl (cA, 120, .inl (fun _ => Int32.ofInt 0))), (u 3, .inl (cA, 120, .inl (fun _ => Int32.ofInt 0))), (u 4, .inl (cA, 60, .inl (fun _ => Int32.ofInt 0))), (u 5, .inl (cA, 60, .inl (fun _ => Int32.ofInt 0))), (u 6, .inl (cA, 60, .inl (fun _ => Int32.ofInt 0)))]) (va_A [(h0, .inr (1, [.null, .null, .null, .null, .null, .null, .null, .null, .null, .null, .int (Int32.ofInt 0), .int (Int32.ofInt 0), .int (Int32.ofInt 0), .int (Int32.ofInt 0), .int (Int32.ofInt 0), .int (Int32.ofInt 0)]))] sz)) 7 7921 (va_A [(h0, .inr (1, [.null, .null, .null, .null, .null, .null, .null, .null, .null, .null, .int (Int32.ofInt 0), .int (Int32.ofInt 0), .int (Int32.ofInt 0), .int (Int32.ofInt 0), .int (Int32.ofInt 0), .int (Int32.ofInt 0)]))] sz) := by
  refine Met.ofW (cc := cX1_init) (maxL := 4) (ret := none) (by decide) rfl ?_
  intro p e s m args below meth c s₁ B hml hv
  obtain ⟨rfl, hsz, hP, hK, hD0⟩ := hv
  have hx := B.exec
  have hb := B.bytes
  have hr := B.returns
  have hts0 := atoms_spec (ws := Cond.code yX1_init cX1_init 4 none :: lwg) B.pre
  have hts : ∀ w ∈ lwg, w.before _ s = true := fun w hw => hts0 w (List.mem_cons_of_mem _ hw)
  have hown : s.vm.findClass RX1 = some m.cls := findClass_of_methodNamed B.named
  have hlocks := B.notSynchronized
  have hin : meth.name = "<init>" := (name_of_methodNamed B.named B.method).1
  subst hsz
  have hD := hD0.self (sz := s.heap.size)
  generalize hAe : va_A [(h0, .inr (1, [.null, .null, .null, .null, .null, .null, .null, .null, .null, .null, .int (Int32.ofInt 0), .int (Int32.ofInt 0), .int (Int32.ofInt 0), .int (Int32.ofInt 0), .int (Int32.ofInt 0), .int (Int32.ofInt 0)]))] s.heap.size = A at hD ⊢
  have hA : ∀ q : Nat, s.heap.size ≤ q → A q := fun q h => by rw [← hAe]; exact Or.inr h
  have hS : va_S A s.heap s.heap [] := va_S.rf
  have hl := lv_entry ([.ref h0, .ref a1, .ref a2, .ref a3]) (n := 4) (Nat.le_of_ble_eq_true rfl)
  rw [lg_entry_eq]
  generalize (lg_sl ([.ref h0, .ref a1, .ref a2, .ref a3]) ++ List.replicate (4 - (lg_sl ([.ref h0, .ref a1, .ref a2, .ref a3])).length) Slot.unset).toArray = ls at hl ⊢
  have hl : lv_has ls 4 [(0, .ref h0), (1, .ref a1), (2, .ref a2), (3, .ref a3)] := hl
  refine lv_aload_n hx hb dX1_init_0 rfl (lv_at hl 0 rfl) ?_
  refine W.objInit hx hb hown (hts _ (lwg_of 204 (by decide +kernel) rfl)) (hts _ (lwg_of 21 (by decide +kernel) rfl)) (hts _ (lwg_of 22 (by decide +kernel) rfl)) rfl (by rw [hml]; exact hl.1) rfl dX1_init_1 (Nat.le_of_ble_eq_true rfl) (Nat.le_of_ble_eq_true rfl) ?_
  refine W.eq (g2 := F0 m 4 ls []) rfl ?_
  refine lv_aload_n hx hb dX1_init_4 rfl (lv_at hl 0 rfl) ?_
  refine lv_sipush hx hb dX1_init_5 (ra_b16 (n := 7381) (by decide)) ?_
  refine va_newa (ty := .int) (a0 := (7381, .inl (fun _ => Int32.ofInt 0))) (N' := 7381) hx hb (hts _ (lwg_of 89 (by decide +kernel) rfl)) rfl hK hP hD hS hA (fun _ => rfl) (by decide) (by decide) (by decide) (Nat.le_of_ble_eq_true rfl) (Nat.le_of_ble_eq_true rfl) dX1_init_8 (fun q8 cB H hK2 hP hD hS => ?_)
  obtain rfl : cA = cB := ki_one hK2
  have hP : va_P D vwCl [(h0, .inr (1, [.null, .null, .null, .null, .null, .null, .null, .null, .null, .null, .int (Int32.ofInt 0), .int (Int32.ofInt 0), .int (Int32.ofInt 0), .int (Int32.ofInt 0), .int (Int32.ofInt 0), .int (Int32.ofInt 0)])), (q8, .inl (cA, 7381, .inl (fun _ => Int32.ofInt 0)))] H := hP
  have hD : va_D A [(h0, .inr (1, [.null, .null, .null, .null, .null, .null, .null, .null, .null, .null, .int (Int32.ofInt 0), .int (Int32.ofInt 0), .int (Int32.ofInt 0), .int (Int32.ofInt 0), .int (Int32.ofInt 0), .int (Int32.ofInt 0)])), (q8, .inl (cA, 7381, .inl (fun _ => Int32.ofInt 0)))] := hD
  refine va_putF (D := D) (ci := 1) (v := .ref q8) (ty := (.array .int)) (C := RX1) (T := TX1) (N := 16) hx hb hts (ra_clsfacts 1 RX1 TX1 16 rfl).1 tyX1 tyX1_ok nmX1 hown hK hP hD hS 0 rfl rfl 3 (by decide) (hts _ (lwg_of 208 (by decide +kernel) rfl)) (fun _ h9 => h9) rfl hin rfl (by decide +kernel) rfl rfl (Nat.le_of_ble_eq_true rfl) dX1_init_10 (fun H locs hP hD hS => ?_)
  have hP : va_P D vwCl [(h0, .inr (1, [.null, .null, .null, .ref q8, .null, .null, .null, .null, .null, .null, .int (Int32.ofInt 0), .int (Int32.ofInt 0), .int (Int32.ofInt 0), .int (Int32.ofInt 0), .int (Int32.ofInt 0), .int (Int32.ofInt 0)])), (q8, .inl (cA, 7381, .inl (fun _ => Int32.ofInt 0)))] H := hP
  have hD : va_D A [(h0, .inr (1, [.null, .null, .null, .ref q8, .null, .null, .null, .null, .null, .null, .int (Int32.ofInt 0), .int (Int32.ofInt 0), .int (Int32.ofInt 0), .int (Int32.ofInt 0), .int (Int32.ofInt 0), .int (Int32.ofInt 0)])), (q8, .inl (cA, 7381, .inl (fun _ => Int32.ofInt 0)))] := hD
  refine lv_aload_n hx hb dX1_init_13 rfl (lv_at hl 0 rfl) ?_
  refine lv_bipush hx hb dX1_init_14 (ra_b8 (n := 120) (by decide)) ?_
  refine va_newa (ty := .int) (a0 := (120, .inl (fun _ => Int32.ofInt 0))) (N' := 120) hx hb (hts _ (lwg_of 89 (by decide +kernel) rfl)) rfl hK hP hD hS hA (fun _ => rfl) (by decide) (by decide) (by decide) (Nat.le_of_ble_eq_true rfl) (Nat.le_of_ble_eq_true rfl) dX1_init_16 (fun q16 cB H hK2 hP hD hS => ?_)
  obtain rfl : cA = cB := ki_one hK2
  have hP : va_P D vwCl [(h0, .inr (1, [.null, .null, .null, .ref q8, .null, .null, .null, .null, .null, .null, .int (Int32.ofInt 0), .int (Int32.ofInt 0), .int (Int32.ofInt 0), .int (Int32.ofInt 0), .int (Int32.ofInt 0), .int (Int32.ofInt 0)])), (q8, .inl (cA, 7381, .inl (fun _ => Int32.ofInt 0))), (q16, .inl (cA, 120, .inl (fun _ => Int32.ofInt 0)))] H := hP
  have hD : va_D A [(h0, .inr (1, [.null, .null, .null, .ref q8, .null, .null, .null, .null, .null, .null, .int (Int32.ofInt 0), .int (Int32.ofInt 0), .int (Int32.ofInt 0), .int (Int32.ofInt 0), .int (Int32.ofInt 0), .int (Int32.ofInt 0)])), (q8, .inl (cA, 7381, .inl (fun _ => Int32.ofInt 0))), (q16, .inl (cA, 120, .inl (fun _ => Int32.ofInt 0)))] := hD
  refine va_putF (D := D) (ci := 1) (v := .ref q16) (ty := (.array .int)) (C := RX1) (T := TX1) (N := 16) hx hb hts (ra_clsfacts 1 RX1 TX1 16 rfl).1 tyX1 tyX1_ok nmX1 hown hK hP hD hS 0 rfl rfl 4 (by decide) (hts _ (lwg_of 209 (by decide +kernel) rfl)) (fun _ h9 => h9) rfl hin rfl (by decide +kernel) rfl rfl (Nat.le_of_ble_eq_true rfl) dX1_init_18 (fun H locs hP hD hS => ?_)
  have hP : va_P D vwCl [(h0, .inr (1, [.null, .null, .null, .ref q8, .ref q16, .null, .null, .null, .null, .null, .int (Int32.ofInt 0), .int (Int32.ofInt 0), .int (Int32.ofInt 0), .int (Int32.ofInt 0), .int (Int32.ofInt 0), .int (Int32.ofInt 0)])), (q8, .inl (cA, 7381, .inl (fun _ => Int32.ofInt 0))), (q16, .inl (cA, 120, .inl (fun _ => Int32.ofInt 0)))] H := hP
  have hD : va_D A [(h0, .inr (1, [.null, .null, .null, .ref q8, .ref q16, .null, .null, .null, .null, .null, .int (Int32.ofInt 0), .int (Int32.ofInt 0), .int (Int32.ofInt 0), .int (Int32.ofInt 0), .int (Int32.ofInt 0), .int (Int32.ofInt 0)])), (q8, .inl (cA, 7381, .inl (fun _ => Int32.ofInt 0))), (q16, .inl (cA, 120, .inl (fun _ => Int32.ofInt 0)))] := hD
  refine lv_aload_n hx hb dX1_init_21 rfl (lv_at hl 0 rfl) ?_
  refine lv_bipush hx hb dX1_init_22 (ra_b8 (n := 120) (by decide)) ?_
  refine va_newa (ty := .int) (a0 := (120, .inl (fun _ => Int32.ofInt 0))) (N' := 120) hx hb (hts _ (lwg_of 89 (by decide +kernel) rfl)) rfl hK hP hD hS hA (fun _ => rfl) (by decide) (by decide) (by decide) (Nat.le_of_ble_eq_true rfl) (Nat.le_of_ble_eq_true rfl) dX1_init_24 (fun q24 cB H hK2 hP hD hS => ?_)
  obtain rfl : cA = cB := ki_one hK2
  have hP : va_P D vwCl [(h0, .inr (1, [.null, .null, .null, .ref q8, .ref q16, .null, .null, .null, .null, .null, .int (Int32.ofInt 0), .int (Int32.ofInt 0), .int (Int32.ofInt 0), .int (Int32.ofInt 0), .int (Int32.ofInt 0), .int (Int32.ofInt 0)])), (q8, .inl (cA, 7381, .inl (fun _ => Int32.ofInt 0))), (q16, .inl (cA, 120, .inl (fun _ => Int32.ofInt 0))), (q24, .inl (cA, 120, .inl (fun _ => Int32.ofInt 0)))] H := hP
  have hD : va_D A [(h0, .inr (1, [.null, .null, .null, .ref q8, .ref q16, .null, .null, .null, .null, .null, .int (Int32.ofInt 0), .int (Int32.ofInt 0), .int (Int32.ofInt 0), .int (Int32.ofInt 0), .int (Int32.ofInt 0), .int (Int32.ofInt 0)])), (q8, .inl (cA, 7381, .inl (fun _ => Int32.ofInt 0))), (q16, .inl (cA, 120, .inl (fun _ => Int32.ofInt 0))), (q24, .inl (cA, 120, .inl (fun _ => Int32.ofInt 0)))] := hD
  refine va_putF (D := D) (ci := 1) (v := .ref q24) (ty := (.array .int)) (C := RX1) (T := TX1) (N := 16) hx hb hts (ra_clsfacts 1 RX1 TX1 16 rfl).1 tyX1 tyX1_ok nmX1 hown hK hP hD hS 0 rfl rfl 5 (by decide) (hts _ (lwg_of 210 (by decide +kernel) rfl)) (fun _ h9 => h9) rfl hin rfl (by decide +kernel) rfl rfl (Nat.le_of_ble_eq_true rfl) dX1_init_26 (fun H locs hP hD hS => ?_)
  have hP : va_P D vwCl [(h0, .inr (1, [.null, .null, .null, .ref q8, .ref q16, .ref q24, .null, .null, .null, .null, .int (Int32.ofInt 0), .int (Int32.ofInt 0), .int (Int32.ofInt 0), .int (Int32.ofInt 0), .int (Int32.ofInt 0), .int (Int32.ofInt 0)])), (q8, .inl (cA, 7381, .inl (fun _ => Int32.ofInt 0))), (q16, .inl (cA, 120, .inl (fun _ => Int32.ofInt 0))), (q24, .inl (cA, 120, .inl (fun _ => Int32.ofInt 0)))] H := hP
  have hD : va_D A [(h0, .inr (1, [.null, .null, .null, .ref q8, .ref q16, .ref q24, .null, .null, .null, .null, .int (Int32.ofInt 0), .int (Int32.ofInt 0), .int (Int32.ofInt 0), .int (Int32.ofInt 0), .int (Int32.ofInt 0), .int (Int32.ofInt 0)])), (q8, .inl (cA, 7381, .inl (fun _ => Int32.ofInt 0))), (q16, .inl (cA, 120, .inl (fun _ => Int32.ofInt 0))), (q24, .inl (cA, 120, .inl (fun _ => Int32.ofInt 0)))] := hD
  refine lv_aload_n hx hb dX1_init_29 rfl (lv_at hl 0 rfl) ?_
  refine lv_bipush hx hb dX1_init_30 (ra_b8 (n := 120) (by decide)) ?_
  refine va_newa (ty := .int) (a0 := (120, .inl (fun _ => Int32.ofInt 0))) (N' := 120) hx hb (hts _ (lwg_of 89 (by decide +kernel) rfl)) rfl hK hP hD hS hA (fun _ => rfl) (by decide) (by decide) (by decide) (Nat.le_of_ble_eq_true rfl) (Nat.le_of_ble_eq_true rfl) dX1_init_32 (fun q32 cB H hK2 hP hD hS => ?_)
  obtain rfl : cA = cB := ki_one hK2
  have hP : va_P D vwCl [(h0, .inr (1, [.null, .null, .null, .ref q8, .ref q16, .ref q24, .null, .null, .null, .null, .int (Int32.ofInt 0), .int (Int32.ofInt 0), .int (Int32.ofInt 0), .int (Int32.ofInt 0), .int (Int32.ofInt 0), .int (Int32.ofInt 0)])), (q8, .inl (cA, 7381, .inl (fun _ => Int32.ofInt 0))), (q16, .inl (cA, 120, .inl (fun _ => Int32.ofInt 0))), (q24, .inl (cA, 120, .inl (fun _ => Int32.ofInt 0))), (q32, .inl (cA, 120, .inl (fun _ => Int32.ofInt 0)))] H := hP
  have hD : va_D A [(h0, .inr (1, [.null, .null, .null, .ref q8, .ref q16, .ref q24, .null, .null, .null, .null, .int (Int32.ofInt 0), .int (Int32.ofInt 0), .int (Int32.ofInt 0), .int (Int32.ofInt 0), .int (Int32.ofInt 0), .int (Int32.ofInt 0)])), (q8, .inl (cA, 7381, .inl (fun _ => Int32.ofInt 0))), (q16, .inl (cA, 120, .inl (fun _ => Int32.ofInt 0))), (q24, .inl (cA, 120, .inl (fun _ => Int32.ofInt 0))), (q32, .inl (cA, 120, .inl (fun _ => Int32.ofInt 0)))] := hD
  refine va_putF (D := D) (ci := 1) (v := .ref q32) (ty := (.array .int)) (C := RX1) (T := TX1) (N := 16) hx hb hts (ra_clsfacts 1 RX1 TX1 16 rfl).1 tyX1 tyX1_ok nmX1 hown hK hP hD hS 0 rfl rfl 6 (by decide) (hts _ (lwg_of 211 (by decide +kernel) rfl)) (fun _ h9 => h9) rfl hin rfl (by decide +kernel) rfl rfl (Nat.le_of_ble_eq_true rfl) dX1_init_34 (fun H locs hP hD hS => ?_)
  have hP : va_P D vwCl [(h0, .inr (1, [.null, .null, .null, .ref q8, .ref q16, .ref q24, .ref q32, .null, .null, .null, .int (Int32.ofInt 0), .int (Int32.ofInt 0), .int (Int32.ofInt 0), .int (Int32.ofInt 0), .int (Int32.ofInt 0), .int (Int32.ofInt 0)])), (q8, .inl (cA, 7381, .inl (fun _ => Int32.ofInt 0))), (q16, .inl (cA, 120, .inl (fun _ => Int32.ofInt 0))), (q24, .inl (cA, 120, .inl (fun _ => Int32.ofInt 0))), (q32, .inl (cA, 120, .inl (fun _ => Int32.ofInt 0)))] H := hP
  have hD : va_D A [(h0, .inr (1, [.null, .null, .null, .ref q8, .ref q16, .ref q24, .ref q32, .null, .null, .null, .int (Int32.ofInt 0), .int (Int32.ofInt 0), .int (Int32.ofInt 0), .int (Int32.ofInt 0), .int (Int32.ofInt 0), .int (Int32.ofInt 0)])), (q8, .inl (cA, 7381, .inl (fun _ => Int32.ofInt 0))), (q16, .inl (cA, 120, .inl (fun _ => Int32.ofInt 0))), (q24, .inl (cA, 120, .inl (fun _ => Int32.ofInt 0))), (q32, .inl (cA, 120, .inl (fun _ => Int32.ofInt 0)))] := hD
  refine lv_aload_n hx hb dX1_init_37 rfl (lv_at hl 0 rfl) ?_
  refine lv_bipush hx hb dX1_init_38 (ra_b8 (n := 60) (by decide)) ?_
  refine va_newa (ty := .int) (a0 := (60, .inl (fun _ => Int32.ofInt 0))) (N' := 60) hx hb (hts _ (lwg_of 89 (by decide +kernel) rfl)) rfl hK hP hD hS hA (fun _ => rfl) (by decide) (by decide) (by decide) (Nat.le_of_ble_eq_true rfl) (Nat.le_of_ble_eq_true rfl) dX1_init_40 (fun q40 cB H hK2 hP hD hS => ?_)
  obtain rfl : cA = cB := ki_one hK2
  have hP : va_P D vwCl [(h0, .inr (1, [.null, .null, .null, .ref q8, .ref q16, .ref q24, .ref q32, .null, .null, .null, .int (Int32.ofInt 0), .int (Int32.ofInt 0), .int (Int32.ofInt 0), .int (Int32.ofInt 0), .int (Int32.ofInt 0), .int (Int32.ofInt 0)])), (q8, .inl (cA, 7381, .inl (fun _ => Int32.ofInt 0))), (q16, .inl (cA, 120, .inl (fun _ => Int32.ofInt 0))), (q24, .inl (cA, 120, .inl (fun _ => Int32.ofInt 0))), (q32, .inl (cA, 120, .inl (fun _ => Int32.ofInt 0))), (q40, .inl (cA, 60, .inl (fun _ => Int32.ofInt 0)))] H := hP
  have hD : va_D A [(h0, .inr (1, [.null, .null, .null, .ref q8, .ref q16, .ref q24, .ref q32, .null, .null, .null, .int (Int32.ofInt 0), .int (Int32.ofInt 0), .int (Int32.ofInt 0), .int (Int32.ofInt 0), .int (Int32.ofInt 0), .int (Int32.ofInt 0)])), (q8, .inl (cA, 7381, .inl (fun _ => Int32.ofInt 0))), (q16, .inl (cA, 120, .inl (fun _ => Int32.ofInt 0))), (q24, .inl (cA, 120, .inl (fun _ => Int32.ofInt 0))), (q32, .inl (cA, 120, .inl (fun _ => Int32.ofInt 0))), (q40, .inl (cA, 60, .inl (fun _ => Int32.ofInt 0)))] := hD
  refine va_putF (D := D) (ci := 1) (v := .ref q40) (ty := (.array .int)) (C := RX1) (T := TX1) (N := 16) hx hb hts (ra_clsfacts 1 RX1 TX1 16 rfl).1 tyX1 tyX1_ok nmX1 hown hK hP hD hS 0 rfl rfl 7 (by decide) (hts _ (lwg_of 213 (by decide +kernel) rfl)) (fun _ h9 => h9) rfl hin rfl (by decide +kernel) rfl rfl (Nat.le_of_ble_eq_true rfl) dX1_init_42 (fun H locs hP hD hS => ?_)
  have hP : va_P D vwCl [(h0, .inr (1, [.null, .null, .null, .ref q8, .ref q16, .ref q24, .ref q32, .ref q40, .null, .null, .int (Int32.ofInt 0), .int (Int32.ofInt 0), .int (Int32.ofInt 0), .int (Int32.ofInt 0), .int (Int32.ofInt 0), .int (Int32.ofInt 0)])), (q8, .inl (cA, 7381, .inl (fun _ => Int32.ofInt 0))), (q16, .inl (cA, 120, .inl (fun _ => Int32.ofInt 0))), (q24, .inl (cA, 120, .inl (fun _ => Int32.ofInt 0))), (q32, .inl (cA, 120, .inl (fun _ => Int32.ofInt 0))), (q40, .inl (cA, 60, .inl (fun _ => Int32.ofInt 0)))] H := hP
  have hD : va_D A [(h0, .inr (1, [.null, .null, .null, .ref q8, .ref q16, .ref q24, .ref q32, .ref q40, .null, .null, .int (Int32.ofInt 0), .int (Int32.ofInt 0), .int (Int32.ofInt 0), .int (Int32.ofInt 0), .int (Int32.ofInt 0), .int (Int32.ofInt 0)])), (q8, .inl (cA, 7381, .inl (fun _ => Int32.ofInt 0))), (q16, .inl (cA, 120, .inl (fun _ => Int32.ofInt 0))), (q24, .inl (cA, 120, .inl (fun _ => Int32.ofInt 0))), (q32, .inl (cA, 120, .inl (fun _ => Int32.ofInt 0))), (q40, .inl (cA, 60, .inl (fun _ => Int32.ofInt 0)))] := hD
  refine lv_aload_n hx hb dX1_init_45 rfl (lv_at hl 0 rfl) ?_
  refine lv_bipush hx hb dX1_init_46 (ra_b8 (n := 60) (by decide)) ?_
  refine va_newa (ty := .int) (a0 := (60, .inl (fun _ => Int32.ofInt 0))) (N' := 60) hx hb (hts _ (lwg_of 89 (by decide +kernel) rfl)) rfl hK hP hD hS hA (fun _ => rfl) (by decide) (by decide) (by decide) (Nat.le_of_ble_eq_true rfl) (Nat.le_of_ble_eq_true rfl) dX1_init_48 (fun q48 cB H hK2 hP hD hS => ?_)
  obtain rfl : cA = cB := ki_one hK2
  have hP : va_P D vwCl [(h0, .inr (1, [.null, .null, .null, .ref q8, .ref q16, .ref q24, .ref q32, .ref q40, .null, .null, .int (Int32.ofInt 0), .int (Int32.ofInt 0), .int (Int32.ofInt 0), .int (Int32.ofInt 0), .int (Int32.ofInt 0), .int (Int32.ofInt 0)])), (q8, .inl (cA, 7381, .inl (fun _ => Int32.ofInt 0))), (q16, .inl (cA, 120, .inl (fun _ => Int32.ofInt 0))), (q24, .inl (cA, 120, .inl (fun _ => Int32.ofInt 0))), (q32, .inl (cA, 120, .inl (fun _ => Int32.ofInt 0))), (q40, .inl (cA, 60, .inl (fun _ => Int32.ofInt 0))), (q48, .inl (cA, 60, .inl (fun _ => Int32.ofInt 0)))] H := hP
  have hD : va_D A [(h0, .inr (1, [.null, .null, .null, .ref q8, .ref q16, .ref q24, .ref q32, .ref q40, .null, .null, .int (Int32.ofInt 0), .int (Int32.ofInt 0), .int (Int32.ofInt 0), .int (Int32.ofInt 0), .int (Int32.ofInt 0), .int (Int32.ofInt 0)])), (q8, .inl (cA, 7381, .inl (fun _ => Int32.ofInt 0))), (q16, .inl (cA, 120, .inl (fun _ => Int32.ofInt 0))), (q24, .inl (cA, 120, .inl (fun _ => Int32.ofInt 0))), (q32, .inl (cA, 120, .inl (fun _ => Int32.ofInt 0))), (q40, .inl (cA, 60, .inl (fun _ => Int32.ofInt 0))), (q48, .inl (cA, 60, .inl (fun _ => Int32.ofInt 0)))] := hD
  refine va_putF (D := D) (ci := 1) (v := .ref q48) (ty := (.array .int)) (C := RX1) (T := TX1) (N := 16) hx hb hts (ra_clsfacts 1 RX1 TX1 16 rfl).1 tyX1 tyX1_ok nmX1 hown hK hP hD hS 0 rfl rfl 8 (by decide) (hts _ (lwg_of 215 (by decide +kernel) rfl)) (fun _ h9 => h9) rfl hin rfl (by decide +kernel) rfl rfl (Nat.le_of_ble_eq_true rfl) dX1_init_50 (fun H locs hP hD hS => ?_)
  have hP : va_P D vwCl [(h0, .inr (1, [.null, .null, .null, .ref q8, .ref q16, .ref q24, .ref q32, .ref q40, .ref q48, .null, .int (Int32.ofInt 0), .int (Int32.ofInt 0), .int (Int32.ofInt 0), .int (Int32.ofInt 0), .int (Int32.ofInt 0), .int (Int32.ofInt 0)])), (q8, .inl (cA, 7381, .inl (fun _ => Int32.ofInt 0))), (q16, .inl (cA, 120, .inl (fun _ => Int32.ofInt 0))), (q24, .inl (cA, 120, .inl (fun _ => Int32.ofInt 0))), (q32, .inl (cA, 120, .inl (fun _ => Int32.ofInt 0))), (q40, .inl (cA, 60, .inl (fun _ => Int32.ofInt 0))), (q48, .inl (cA, 60, .inl (fun _ => Int32.ofInt 0)))] H := hP
  have hD : va_D A [(h0, .inr (1, [.null, .null, .null, .ref q8, .ref q16, .ref q24, .ref q32, .ref q40, .ref q48, .null, .int (Int32.ofInt 0), .int (Int32.ofInt 0), .int (Int32.ofInt 0), .int (Int32.ofInt 0), .int (Int32.ofInt 0), .int (Int32.ofInt 0)])), (q8, .inl (cA, 7381, .inl (fun _ => Int32.ofInt 0))), (q16, .inl (cA, 120, .inl (fun _ => Int32.ofInt 0))), (q24, .inl (cA, 120, .inl (fun _ => Int32.ofInt 0))), (q32, .inl (cA, 120, .inl (fun _ => Int32.ofInt 0))), (q40, .inl (cA, 60, .inl (fun _ => Int32.ofInt 0))), (q48, .inl (cA, 60, .inl (fun _ => Int32.ofInt 0)))] := hD
  refine lv_aload_n hx hb dX1_init_53 rfl (lv_at hl 0 rfl) ?_
  refine lv_bipush hx hb dX1_init_54 (ra_b8 (n := 60) (by decide)) ?_
  refine va_newa (ty := .int) (a0 := (60, .inl (fun _ => Int32.ofInt 0))) (N' := 60) hx hb (hts _ (lwg_of 89 (by decide +kernel) rfl)) rfl hK hP hD hS hA (fun _ => rfl) (by decide) (by decide) (by decide) (Nat.le_of_ble_eq_true rfl) (Nat.le_of_ble_eq_true rfl) dX1_init_56 (fun q56 cB H hK2 hP hD hS => ?_)
  obtain rfl : cA = cB := ki_one hK2
  have hP : va_P D vwCl [(h0, .inr (1, [.null, .null, .null, .ref q8, .ref q16, .ref q24, .ref q32, .ref q40, .ref q48, .null, .int (Int32.ofInt 0), .int (Int32.ofInt 0), .int (Int32.ofInt 0), .int (Int32.ofInt 0), .int (Int32.ofInt 0), .int (Int32.ofInt 0)])), (q8, .inl (cA, 7381, .inl (fun _ => Int32.ofInt 0))), (q16, .inl (cA, 120, .inl (fun _ => Int32.ofInt 0))), (q24, .inl (cA, 120, .inl (fun _ => Int32.ofInt 0))), (q32, .inl (cA, 120, .inl (fun _ => Int32.ofInt 0))), (q40, .inl (cA, 60, .inl (fun _ => Int32.ofInt 0))), (q48, .inl (cA, 60, .inl (fun _ => Int32.ofInt 0))), (q56, .inl (cA, 60, .inl (fun _ => Int32.ofInt 0)))] H := hP
  have hD : va_D A [(h0, .inr (1, [.null, .null, .null, .ref q8, .ref q16, .ref q24, .ref q32, .ref q40, .ref q48, .null, .int (Int32.ofInt 0), .int (Int32.ofInt 0), .int (Int32.ofInt 0), .int (Int32.ofInt 0), .int (Int32.ofInt 0), .int (Int32.ofInt 0)])), (q8, .inl (cA, 7381, .inl (fun _ => Int32.ofInt 0))), (q16, .inl (cA, 120, .inl (fun _ => Int32.ofInt 0))), (q24, .inl (cA, 120, .inl (fun _ => Int32.ofInt 0))), (q32, .inl (cA, 120, .inl (fun _ => Int32.ofInt 0))), (q40, .inl (cA, 60, .inl (fun _ => Int32.ofInt 0))), (q48, .inl (cA, 60, .inl (fun _ => Int32.ofInt 0))), (q56, .inl (cA, 60, .inl (fun _ => Int32.ofInt 0)))] := hD
  refine va_putF (D := D) (ci := 1) (v := .ref q56) (ty := (.array .int)) (C := RX1) (T := TX1) (N := 16) hx hb hts (ra_clsfacts 1 RX1 TX1 16 rfl).1 tyX1 tyX1_ok nmX1 hown hK hP hD hS 0 rfl rfl 9 (by decide) (hts _ (lwg_of 217 (by decide +kernel) rfl)) (fun _ h9 => h9) rfl hin rfl (by decide +kernel) rfl rfl (Nat.le_of_ble_eq_true rfl) dX1_init_58 (fun H locs hP hD hS => ?_)
  have hP : va_P D vwCl [(h0, .inr (1, [.null, .null, .null, .ref q8, .ref q16, .ref q24, .ref q32, .ref q40, .ref q48, .ref q56, .int (Int32.ofInt 0), .int (Int32.ofInt 0), .int (Int32.ofInt 0), .int (Int32.ofInt 0), .int (Int32.ofInt 0), .int (Int32.ofInt 0)])), (q8, .inl (cA, 7381, .inl (fun _ => Int32.ofInt 0))), (q16, .inl (cA, 120, .inl (fun _ => Int32.ofInt 0))), (q24, .inl (cA, 120, .inl (fun _ => Int32.ofInt 0))), (q32, .inl (cA, 120, .inl (fun _ => Int32.ofInt 0))), (q40, .inl (cA, 60, .inl (fun _ => Int32.ofInt 0))), (q48, .inl (cA, 60, .inl (fun _ => Int32.ofInt 0))), (q56, .inl (cA, 60, .inl (fun _ => Int32.ofInt 0)))] H := hP
  have hD : va_D A [(h0, .inr (1, [.null, .null, .null, .ref q8, .ref q16, .ref q24, .ref q32, .ref q40, .ref q48, .ref q56, .int (Int32.ofInt 0), .int (Int32.ofInt 0), .int (Int32.ofInt 0), .int (Int32.ofInt 0), .int (Int32.ofInt 0), .int (Int32.ofInt 0)])), (q8, .inl (cA, 7381, .inl (fun _ => Int32.ofInt 0))), (q16, .inl (cA, 120, .inl (fun _ => Int32.ofInt 0))), (q24, .inl (cA, 120, .inl (fun _ => Int32.ofInt 0))), (q32, .inl (cA, 120, .inl (fun _ => Int32.ofInt 0))), (q40, .inl (cA, 60, .inl (fun _ => Int32.ofInt 0))), (q48, .inl (cA, 60, .inl (fun _ => Int32.ofInt 0))), (q56, .inl (cA, 60, .inl (fun _ => Int32.ofInt 0)))] := hD
  refine lv_aload_n hx hb dX1_init_61 rfl (lv_at hl 0 rfl) ?_
  refine lv_aload_n hx hb dX1_init_62 rfl (lv_at hl 1 rfl) ?_
  refine va_putF (D := D) (ci := 1) (v := .ref a1) (ty := (.object "FollowScore$Score")) (C := RX1) (T := TX1) (N := 16) hx hb hts (ra_clsfacts 1 RX1 TX1 16 rfl).1 tyX1 tyX1_ok nmX1 hown hK hP hD hS 0 rfl rfl 0 (by decide) (hts _ (lwg_of 205 (by decide +kernel) rfl)) (fun _ h9 => h9) rfl hin rfl (by decide +kernel) rfl rfl (Nat.le_of_ble_eq_true rfl) dX1_init_63 (fun H locs hP hD hS => ?_)
  have hP : va_P D vwCl [(h0, .inr (1, [.ref a1, .null, .null, .ref q8, .ref q16, .ref q24, .ref q32, .ref q40, .ref q48, .ref q56, .int (Int32.ofInt 0), .int (Int32.ofInt 0), .int (Int32.ofInt 0), .int (Int32.ofInt 0), .int (Int32.ofInt 0), .int (Int32.ofInt 0)])), (q8, .inl (cA, 7381, .inl (fun _ => Int32.ofInt 0))), (q16, .inl (cA, 120, .inl (fun _ => Int32.ofInt 0))), (q24, .inl (cA, 120, .inl (fun _ => Int32.ofInt 0))), (q32, .inl (cA, 120, .inl (fun _ => Int32.ofInt 0))), (q40, .inl (cA, 60, .inl (fun _ => Int32.ofInt 0))), (q48, .inl (cA, 60, .inl (fun _ => Int32.ofInt 0))), (q56, .inl (cA, 60, .inl (fun _ => Int32.ofInt 0)))] H := hP
  have hD : va_D A [(h0, .inr (1, [.ref a1, .null, .null, .ref q8, .ref q16, .ref q24, .ref q32, .ref q40, .ref q48, .ref q56, .int (Int32.ofInt 0), .int (Int32.ofInt 0), .int (Int32.ofInt 0), .int (Int32.ofInt 0), .int (Int32.ofInt 0), .int (Int32.ofInt 0)])), (q8, .inl (cA, 7381, .inl (fun _ => Int32.ofInt 0))), (q16, .inl (cA, 120, .inl (fun _ => Int32.ofInt 0))), (q24, .inl (cA, 120, .inl (fun _ => Int32.ofInt 0))), (q32, .inl (cA, 120, .inl (fun _ => Int32.ofInt 0))), (q40, .inl (cA, 60, .inl (fun _ => Int32.ofInt 0))), (q48, .inl (cA, 60, .inl (fun _ => Int32.ofInt 0))), (q56, .inl (cA, 60, .inl (fun _ => Int32.ofInt 0)))] := hD
  refine lv_aload_n hx hb dX1_init_66 rfl (lv_at hl 0 rfl) ?_
  refine lv_aload_n hx hb dX1_init_67 rfl (lv_at hl 2 rfl) ?_
  refine va_putF (D := D) (ci := 1) (v := .ref a2) (ty := (.object "FollowScore$Nexts")) (C := RX1) (T := TX1) (N := 16) hx hb hts (ra_clsfacts 1 RX1 TX1 16 rfl).1 tyX1 tyX1_ok nmX1 hown hK hP hD hS 0 rfl rfl 1 (by decide) (hts _ (lwg_of 206 (by decide +kernel) rfl)) (fun _ h9 => h9) rfl hin rfl (by decide +kernel) rfl rfl (Nat.le_of_ble_eq_true rfl) dX1_init_68 (fun H locs hP hD hS => ?_)
  have hP : va_P D vwCl [(h0, .inr (1, [.ref a1, .ref a2, .null, .ref q8, .ref q16, .ref q24, .ref q32, .ref q40, .ref q48, .ref q56, .int (Int32.ofInt 0), .int (Int32.ofInt 0), .int (Int32.ofInt 0), .int (Int32.ofInt 0), .int (Int32.ofInt 0), .int (Int32.ofInt 0)])), (q8, .inl (cA, 7381, .inl (fun _ => Int32.ofInt 0))), (q16, .inl (cA, 120, .inl (fun _ => Int32.ofInt 0))), (q24, .inl (cA, 120, .inl (fun _ => Int32.ofInt 0))), (q32, .inl (cA, 120, .inl (fun _ => Int32.ofInt 0))), (q40, .inl (cA, 60, .inl (fun _ => Int32.ofInt 0))), (q48, .inl (cA, 60, .inl (fun _ => Int32.ofInt 0))), (q56, .inl (cA, 60, .inl (fun _ => Int32.ofInt 0)))] H := hP
  have hD : va_D A [(h0, .inr (1, [.ref a1, .ref a2, .null, .ref q8, .ref q16, .ref q24, .ref q32, .ref q40, .ref q48, .ref q56, .int (Int32.ofInt 0), .int (Int32.ofInt 0), .int (Int32.ofInt 0), .int (Int32.ofInt 0), .int (Int32.ofInt 0), .int (Int32.ofInt 0)])), (q8, .inl (cA, 7381, .inl (fun _ => Int32.ofInt 0))), (q16, .inl (cA, 120, .inl (fun _ => Int32.ofInt 0))), (q24, .inl (cA, 120, .inl (fun _ => Int32.ofInt 0))), (q32, .inl (cA, 120, .inl (fun _ => Int32.ofInt 0))), (q40, .inl (cA, 60, .inl (fun _ => Int32.ofInt 0))), (q48, .inl (cA, 60, .inl (fun _ => Int32.ofInt 0))), (q56, .inl (cA, 60, .inl (fun _ => Int32.ofInt 0)))] := hD
  refine lv_aload_n hx hb dX1_init_71 rfl (lv_at hl 0 rfl) ?_
  refine lv_aload_n hx hb dX1_init_72 rfl (lv_at hl 3 rfl) ?_
  refine va_putF (D := D) (ci := 1) (v := .ref a3) (ty := (.object "FollowScore$Heard")) (C := RX1) (T := TX1) (N := 16) hx hb hts (ra_clsfacts 1 RX1 TX1 16 rfl).1 tyX1 tyX1_ok nmX1 hown hK hP hD hS 0 rfl rfl 2 (by decide) (hts _ (lwg_of 207 (by decide +kernel) rfl)) (fun _ h9 => h9) rfl hin rfl (by decide +kernel) rfl rfl (Nat.le_of_ble_eq_true rfl) dX1_init_73 (fun H locs hP hD hS => ?_)
  have hP : va_P D vwCl [(h0, .inr (1, [.ref a1, .ref a2, .ref a3, .ref q8, .ref q16, .ref q24, .ref q32, .ref q40, .ref q48, .ref q56, .int (Int32.ofInt 0), .int (Int32.ofInt 0), .int (Int32.ofInt 0), .int (Int32.ofInt 0), .int (Int32.ofInt 0), .int (Int32.ofInt 0)])), (q8, .inl (cA, 7381, .inl (fun _ => Int32.ofInt 0))), (q16, .inl (cA, 120, .inl (fun _ => Int32.ofInt 0))), (q24, .inl (cA, 120, .inl (fun _ => Int32.ofInt 0))), (q32, .inl (cA, 120, .inl (fun _ => Int32.ofInt 0))), (q40, .inl (cA, 60, .inl (fun _ => Int32.ofInt 0))), (q48, .inl (cA, 60, .inl (fun _ => Int32.ofInt 0))), (q56, .inl (cA, 60, .inl (fun _ => Int32.ofInt 0)))] H := hP
  have hD : va_D A [(h0, .inr (1, [.ref a1, .ref a2, .ref a3, .ref q8, .ref q16, .ref q24, .ref q32, .ref q40, .ref q48, .ref q56, .int (Int32.ofInt 0), .int (Int32.ofInt 0), .int (Int32.ofInt 0), .int (Int32.ofInt 0), .int (Int32.ofInt 0), .int (Int32.ofInt 0)])), (q8, .inl (cA, 7381, .inl (fun _ => Int32.ofInt 0))), (q16, .inl (cA, 120, .inl (fun _ => Int32.ofInt 0))), (q24, .inl (cA, 120, .inl (fun _ => Int32.ofInt 0))), (q32, .inl (cA, 120, .inl (fun _ => Int32.ofInt 0))), (q40, .inl (cA, 60, .inl (fun _ => Int32.ofInt 0))), (q48, .inl (cA, 60, .inl (fun _ => Int32.ofInt 0))), (q56, .inl (cA, 60, .inl (fun _ => Int32.ofInt 0)))] := hD
  refine W.widen (k := 7) (n := 7921) (Nat.le_of_ble_eq_true rfl) (Nat.le_of_ble_eq_true rfl) ?_
  exact W.vret hx hb hr (fun t ht hW => ⟨⟨fun i => [q8, q16, q24, q32, q40, q48, q56].getD i 0, rfl, trivial, by rw [ht]; exact hP, hD⟩, hS.F ht⟩) hS.2.2 dX1_init_76

set_option maxHeartbeats 4000000 in
set_option maxRecDepth 100000 in
theorem ci_X2_init (l : Launch) (D : va_G) (cA : ClassId) (h0 sz : Nat) : Met l yX2_init (Cond.code yX2_init cX2_init 1 none :: lwg) { frames := 1, cells := 2, slots := 120, locals := 12 } (va_Pc [.ref h0] (ki_B D cA [(h0, .inr (2, [.null, .null, .int (Int32.ofInt 0)]))] sz)) (ki_Q D (fun u => [(h0, .inr (2, [.ref (u 0), .ref (u 1), .int (Int32.ofInt 0)])), (u 0, .inl (cA, 60, .inl (fun _ => Int32.ofInt 0))), (u 1, .inl (cA, 60, .inl (fun _ => Int32.ofInt 0)))]) (va_A [(h0, .inr (2, [.null, .null, .int (Int32.ofInt 0)]))] sz)) 2 120 (va_A [(h0, .inr (2, [.null, .null, .int (Int32.ofInt 0)]))] sz) := by
  refine Met.ofW (cc := cX2_init) (maxL := 1) (ret := none) (by decide) rfl ?_
  intro p e s m args below meth c s₁ B hml hv
  obtain ⟨rfl, hsz, hP, hK, hD0⟩ := hv
  have hx := B.exec
  have hb := B.bytes
  have hr := B.returns
  have hts0 := atoms_spec (ws := Cond.code yX2_init cX2_init 1 none :: lwg) B.pre
  have hts : ∀ w ∈ lwg, w.before _ s = true := fun w hw => hts0 w (List.mem_cons_of_mem _ hw)
  have hown : s.vm.findClass RX2 = some m.cls := findClass_of_methodNamed B.named
  have hlocks := B.notSynchronized
  have hin : meth.name = "<init>" := (name_of_methodNamed B.named B.method).1
  subst hsz
  have hD := hD0.self (sz := s.heap.size)
  generalize hAe : va_A [(h0, .inr (2, [.null, .null, .int (Int32.ofInt 0)]))] s.heap.size = A at hD ⊢
  have hA : ∀ q : Nat, s.heap.size ≤ q → A q := fun q h => by rw [← hAe]; exact Or.inr h
  have hS : va_S A s.heap s.heap [] := va_S.rf
  have hl := lv_entry ([.ref h0]) (n := 1) (Nat.le_of_ble_eq_true rfl)
  rw [lg_entry_eq]
  generalize (lg_sl ([.ref h0]) ++ List.replicate (1 - (lg_sl ([.ref h0])).length) Slot.unset).toArray = ls at hl ⊢
  have hl : lv_has ls 1 [(0, .ref h0)] := hl
  refine lv_aload_n hx hb dX2_init_0 rfl (lv_at hl 0 rfl) ?_
  refine W.objInit hx hb hown (hts _ (lwg_of 266 (by decide +kernel) rfl)) (hts _ (lwg_of 21 (by decide +kernel) rfl)) (hts _ (lwg_of 22 (by decide +kernel) rfl)) rfl (by rw [hml]; exact hl.1) rfl dX2_init_1 (Nat.le_of_ble_eq_true rfl) (Nat.le_of_ble_eq_true rfl) ?_
  refine W.eq (g2 := F0 m 4 ls []) rfl ?_
  refine lv_aload_n hx hb dX2_init_4 rfl (lv_at hl 0 rfl) ?_
  refine lv_bipush hx hb dX2_init_5 (ra_b8 (n := 60) (by decide)) ?_
  refine va_newa (ty := .int) (a0 := (60, .inl (fun _ => Int32.ofInt 0))) (N' := 60) hx hb (hts _ (lwg_of 89 (by decide +kernel) rfl)) rfl hK hP hD hS hA (fun _ => rfl) (by decide) (by decide) (by decide) (Nat.le_of_ble_eq_true rfl) (Nat.le_of_ble_eq_true rfl) dX2_init_7 (fun q7 cB H hK2 hP hD hS => ?_)
  obtain rfl : cA = cB := ki_one hK2
  have hP : va_P D vwCl [(h0, .inr (2, [.null, .null, .int (Int32.ofInt 0)])), (q7, .inl (cA, 60, .inl (fun _ => Int32.ofInt 0)))] H := hP
  have hD : va_D A [(h0, .inr (2, [.null, .null, .int (Int32.ofInt 0)])), (q7, .inl (cA, 60, .inl (fun _ => Int32.ofInt 0)))] := hD
  refine va_putF (D := D) (ci := 2) (v := .ref q7) (ty := (.array .int)) (C := RX2) (T := TX2) (N := 3) hx hb hts (ra_clsfacts 2 RX2 TX2 3 rfl).1 tyX2 tyX2_ok nmX2 hown hK hP hD hS 0 rfl rfl 0 (by decide) (hts _ (lwg_of 267 (by decide +kernel) rfl)) (fun _ h9 => h9) rfl hin rfl (by decide +kernel) rfl rfl (Nat.le_of_ble_eq_true rfl) dX2_init_9 (fun H locs hP hD hS => ?_)
  have hP : va_P D vwCl [(h0, .inr (2, [.ref q7, .null, .int (Int32.ofInt 0)])), (q7, .inl (cA, 60, .inl (fun _ => Int32.ofInt 0)))] H := hP
  have hD : va_D A [(h0, .inr (2, [.ref q7, .null, .int (Int32.ofInt 0)])), (q7, .inl (cA, 60, .inl (fun _ => Int32.ofInt 0)))] := hD
  refine lv_aload_n hx hb dX2_init_12 rfl (lv_at hl 0 rfl) ?_
  refine lv_bipush hx hb dX2_init_13 (ra_b8 (n := 60) (by decide)) ?_
  refine va_newa (ty := .int) (a0 := (60, .inl (fun _ => Int32.ofInt 0))) (N' := 60) hx hb (hts _ (lwg_of 89 (by decide +kernel) rfl)) rfl hK hP hD hS hA (fun _ => rfl) (by decide) (by decide) (by decide) (Nat.le_of_ble_eq_true rfl) (Nat.le_of_ble_eq_true rfl) dX2_init_15 (fun q15 cB H hK2 hP hD hS => ?_)
  obtain rfl : cA = cB := ki_one hK2
  have hP : va_P D vwCl [(h0, .inr (2, [.ref q7, .null, .int (Int32.ofInt 0)])), (q7, .inl (cA, 60, .inl (fun _ => Int32.ofInt 0))), (q15, .inl (cA, 60, .inl (fun _ => Int32.ofInt 0)))] H := hP
  have hD : va_D A [(h0, .inr (2, [.ref q7, .null, .int (Int32.ofInt 0)])), (q7, .inl (cA, 60, .inl (fun _ => Int32.ofInt 0))), (q15, .inl (cA, 60, .inl (fun _ => Int32.ofInt 0)))] := hD
  refine va_putF (D := D) (ci := 2) (v := .ref q15) (ty := (.array .int)) (C := RX2) (T := TX2) (N := 3) hx hb hts (ra_clsfacts 2 RX2 TX2 3 rfl).1 tyX2 tyX2_ok nmX2 hown hK hP hD hS 0 rfl rfl 1 (by decide) (hts _ (lwg_of 269 (by decide +kernel) rfl)) (fun _ h9 => h9) rfl hin rfl (by decide +kernel) rfl rfl (Nat.le_of_ble_eq_true rfl) dX2_init_17 (fun H locs hP hD hS => ?_)
  have hP : va_P D vwCl [(h0, .inr (2, [.ref q7, .ref q15, .int (Int32.ofInt 0)])), (q7, .inl (cA, 60, .inl (fun _ => Int32.ofInt 0))), (q15, .inl (cA, 60, .inl (fun _ => Int32.ofInt 0)))] H := hP
  have hD : va_D A [(h0, .inr (2, [.ref q7, .ref q15, .int (Int32.ofInt 0)])), (q7, .inl (cA, 60, .inl (fun _ => Int32.ofInt 0))), (q15, .inl (cA, 60, .inl (fun _ => Int32.ofInt 0)))] := hD
  refine W.widen (k := 2) (n := 120) (Nat.le_of_ble_eq_true rfl) (Nat.le_of_ble_eq_true rfl) ?_
  exact W.vret hx hb hr (fun t ht hW => ⟨⟨fun i => [q7, q15].getD i 0, rfl, trivial, by rw [ht]; exact hP, hD⟩, hS.F ht⟩) hS.2.2 dX2_init_20
