/-! THE CLAIM OUT OF ONE WALK OF THE LAW'S BODY. Your part is whole_start (and what it stands on); all else here is the same for every law, but numbers. -/
def R_law : String := "FollowScoreLaw"
def lw_P (b : Addr) (xs : List Int32) (args : Array Value) (s : State) : Prop := args = #[.ref b] ∧ s.IntsAt b xs ∧ xs.length ≤ 1536 ∧ (Jvm.Cond.and given_1 narrow_1).before args s = true
def lw_Q (_ : Array Value) (s : State) (o : Outcome) (t : State) : Prop := o = .returned (some (.int 1)) ∧ Framed s o t [] 601024 7293034
def lw_Z (below : List Frame) (a : Array Value) (s : State) : State → Prop := fun t => ∃ o, t.status = .running ∧ Ended t below o ∧ lw_Q a s o t
/-- the law's own end, with 1 on the stack, nothing written that was there before, its room as the claim has it -/
theorem lw_ret {p : Program} {l : Launch} {e : Env} {s : State} {m : MethodId} {below : List Frame} {meth : Method} {c : Code} {b : Nat} (hx : p.tables.exec = Jvm.exec) (hb : c.code = code) (hr : meth.sig.returnType = ret) (hlocks : meth.locks = false) {pc : Nat} {H : Heap} {ls : Array Slot} (hdg : decode code pc = .ok (.ireturn, 1)) : W p l e room_1 s m #[Value.ref b] below meth c H [] 601024 7293034 (lw_Z below #[Value.ref b] s) (F0 m pc ls [.int 1]) := by
  intro T hT X
  obtain ⟨fs, hret, hrun, hended, hW, hframe⟩ := X.leave (v := some (.int 1)) (hlocks := hlocks) (fun h => by rw [hr] at h; cases h)
  have hmeth' : T.vm.method? m = some meth := X.method'
  refine ⟨T.setFrames fs, ?_, .returned (some (.int 1)), hrun, hended, rfl, ⟨_, rfl⟩, hW, hframe⟩
  jvm_step X.here [X.here.top, hx, hb, hdg, hmeth', hr, ret, narrow_b1]
  (try refine ⟨rfl, ?_⟩); (try refine ⟨rfl, ?_⟩)
  first | (intro acts; rw [hret _ acts rfl rfl rfl]) | rw [hret _ _ rfl rfl rfl]
  exact Steps.refl _
/-- what holds at the law's entry: the machine, the code, the tables' words (any of lw_tbl by 'hts w (by decide +kernel)'), the script of L ints xs at the cell b, what the Statement gives of the start (any of its parts by flat_of_before) -/
def lw_At (p : Program) (s : State) (m : MethodId) (meth : Method) (c : Code) (b L : Nat) (xs : Nat → Int32) : Prop :=
  p.tables.exec = Jvm.exec ∧ c.code = code ∧ meth.sig.returnType = ret ∧ c.maxLocals = 7 ∧ s.vm.findClass R_law = some m.cls ∧ (∀ w ∈ lw_tbl, w.before #[Value.ref b] s = true) ∧ va_X b L xs s s.heap ∧ b < s.heap.size ∧ meth.locks = false ∧ (Jvm.Cond.and given_1 narrow_1).before #[Value.ref b] s = true
/-- what the law's start says of the costs' array and of a throw -/
theorem lw_fc {s : State} {b : Nat} {A : Nat → Prop} (hts : ∀ w ∈ lw_tbl, w.before #[Value.ref b] s = true) (hgv : (Jvm.Cond.and given_1 narrow_1).before #[Value.ref b] s = true) (hnA : ∀ a : Nat, a < s.heap.size → ¬ A a) : ∃ fc : Nat, ra_sta (fun _ => fc) A s s.heap ∧ thS A s s.heap := by
  have hs := flat_of_before _ hgv
  have tb : ∀ {w : Cond} (i : Nat), tables_1[i]? = some w → w.before #[Value.ref b] s = true := fun i h => hts _ (List.mem_append_right _ (List.mem_of_getElem? h))
  have h5 : (Term.length (.static "FollowScore" "FIRST_COSTS" "[I")).eval #[Value.ref b] s none [] s = some (.int 5) := va_eqt (hs (Cond.eq (.length (.static "FollowScore" "FIRST_COSTS" "[I")) (.int 5)) (by decide +kernel))
  have e0 : (Term.elem (.static "FollowScore" "FIRST_COSTS" "[I") (.int 0)).eval #[Value.ref b] s none [] s = some (.int 3) := va_eqt (hs _ (by decide +kernel))
  have e1 : (Term.elem (.static "FollowScore" "FIRST_COSTS" "[I") (.int 1)).eval #[Value.ref b] s none [] s = some (.int 2) := va_eqt (hs _ (by decide +kernel))
  have e2 : (Term.elem (.static "FollowScore" "FIRST_COSTS" "[I") (.int 2)).eval #[Value.ref b] s none [] s = some (.int 2) := va_eqt (hs _ (by decide +kernel))
  have e3 : (Term.elem (.static "FollowScore" "FIRST_COSTS" "[I") (.int 3)).eval #[Value.ref b] s none [] s = some (.int 1) := va_eqt (hs _ (by decide +kernel))
  have e4 : (Term.elem (.static "FollowScore" "FIRST_COSTS" "[I") (.int 4)).eval #[Value.ref b] s none [] s = some (.int 6) := va_eqt (hs _ (by decide +kernel))
  obtain ⟨fc, hev, hT⟩ := va_Tof (A := A) (N := 5) (f := ra_fcv) (by decide) (hs (Cond.arrayOf (.static "FollowScore" "FIRST_COSTS" "[I") .int) (by decide +kernel)) h5 (fun j hj => by
    rcases (show j = 0 ∨ j = 1 ∨ j = 2 ∨ j = 3 ∨ j = 4 by omega) with rfl | rfl | rfl | rfl | rfl
    · exact e0
    · exact e1
    · exact e2
    · exact e3
    · exact e4) hnA
  obtain ⟨sa, _, _, _, q1, -⟩ := Cond.exactly_spec (hs (Cond.exactly (.string "FollowScore" 200) "java/lang/String") (by decide +kernel))
  refine ⟨fc, ⟨va_Zof (tb 30 (by decide +kernel)) (tb 1 (by decide +kernel)) hev hnA, hT, va_Nw.of rfl (hts _ ra_gw_in)⟩, vx_Zqof (tb 704 (by decide +kernel)) (tb 11 (by decide +kernel)) (hs _ (by decide +kernel)) hnA, vx_Zqof (tb 706 (by decide +kernel)) (tb 11 (by decide +kernel)) (hs _ (by decide +kernel)) hnA, ⟨sa, vk_R.of (tb 716 (by decide +kernel)) q1⟩, fun w hw => ?_⟩
  simp only [thW, List.mem_cons, List.not_mem_nil, or_false] at hw
  rcases hw with rfl | rfl | rfl | rfl
  · exact va_Nw.of rfl (tb 681 (by decide +kernel))
  · exact va_Nw.of rfl (tb 683 (by decide +kernel))
  · exact va_Nw.of rfl (tb 685 (by decide +kernel))
  · exact va_Nw.of rfl (tb 679 (by decide +kernel))
theorem okMC0 : ra_okM MC0 := by
  intro k j
  unfold MC0
  split
  · show in32 (if j = 7 then -1 else if j = 8 then -1 else if j = 9 then 8 else 0)
    unfold in32
    repeat' split
    all_goals omega
  · unfold fU in32 ra_fc
    dsimp only
    repeat' split
    all_goals omega
  · show in32 (if j = 5 then -1 else 0)
    unfold in32
    split <;> omega
  · unfold fU in32
    dsimp only
    repeat' split
    all_goals omega
  · show in32 0
    exact ⟨by decide, by decide⟩
set_option maxRecDepth 100000 in
set_option maxHeartbeats 4000000 in
/-- from the entry, for every script of at most 1536 ints, the law comes to its end with true -/
theorem whole_start {p : Program} {e : Env} {s : State} {m : MethodId} {below : List Frame} {meth : Method} {c : Code} (l : Launch) (hst : l.stackTraces = false) {b L : Nat} {xs : Nat → Int32} (hL : L ≤ 1536) (C0 : lw_At p s m meth c b L xs) : W p l e room_1 s m #[Value.ref b] below meth c s.heap [] 0 0 (lw_Z below #[Value.ref b] s) (entryFrame m ([Value.ref b] : List Value).toArray 7) := by
  obtain ⟨hx, hb, hr, hml, hown, hts, hX, hbl, hlocks, hgv⟩ := id C0
  have hg : ∀ w ∈ lwg, w.before #[Value.ref b] s = true := fun w hw => hts w (List.mem_filter.mp hw).1
  obtain ⟨A, hAe⟩ : ∃ A : Nat → Prop, A = fun q : Nat => s.heap.size ≤ q := ⟨_, rfl⟩
  have hA : ∀ q : Nat, s.heap.size ≤ q → A q := fun q h => by rw [hAe]; exact h
  have hAb : ∀ q : Nat, A q → s.heap.size ≤ q := fun q h => by rw [hAe] at h; exact h
  have hnA : ∀ q : Nat, q < s.heap.size → ¬ A q := fun q h z => by have := hAb q z; omega
  obtain ⟨fc, hsta0, hth⟩ := lw_fc (A := A) hts hgv hnA
  obtain ⟨c0, i0, hKn0⟩ := u_known (C := RX0) (T := TX0) (N := 5) (n := 5) hg (ra_clsfacts 0 RX0 TX0 5 rfl).1 (hg _ (lwg_of 177 (by decide +kernel) rfl))
  obtain ⟨c1, i1, hKn1⟩ := u_known (C := RX1) (T := TX1) (N := 16) (n := 16) hg (ra_clsfacts 1 RX1 TX1 16 rfl).1 (hg _ (lwg_of 200 (by decide +kernel) rfl))
  obtain ⟨c2, i2, hKn2⟩ := u_known (C := RX2) (T := TX2) (N := 3) (n := 3) hg (ra_clsfacts 2 RX2 TX2 3 rfl).1 (hg _ (lwg_of 262 (by decide +kernel) rfl))
  obtain ⟨c3, i3, hKn3⟩ := u_known (C := RX3) (T := TX3) (N := 6) (n := 6) hg (ra_clsfacts 3 RX3 TX3 6 rfl).1 (hg _ (lwg_of 146 (by decide +kernel) rfl))
  obtain ⟨c4, i4, hKn4⟩ := u_known (C := RX4) (T := TX4) (N := 3) (n := 3) hg (ra_clsfacts 4 RX4 TX4 3 rfl).1 (hg _ (lwg_of 91 (by decide +kernel) rfl))
  obtain ⟨c5, i5, hKn5⟩ := u_known (C := RX5) (T := TX5) (N := 6) (n := 6) hg (ra_clsfacts 5 RX5 TX5 6 rfl).1 (hg _ (lwg_of 113 (by decide +kernel) rfl))
  obtain ⟨c6, i6, hKn6⟩ := u_known (C := RX6) (T := TX6) (N := 10) (n := 10) hg (ra_clsfacts 6 RX6 TX6 10 rfl).1 (hg _ (lwg_of 24 (by decide +kernel) rfl))
  obtain ⟨c7, i7, hKn7⟩ := u_known (C := RX7) (T := TX7) (N := 7) (n := 7) hg (ra_clsfacts 7 RX7 TX7 7 rfl).1 (hg _ (lwg_of 16 (by decide +kernel) rfl))
  obtain ⟨c8, i8, hKn8⟩ := u_known (C := RX8) (T := TX8) (N := 35) (n := 35) hg (ra_clsfacts 8 RX8 TX8 35 rfl).1 (hg _ (lwg_of 744 (by decide +kernel) rfl))
  obtain ⟨D, hKc⟩ : ∃ D : va_G, ∀ (k : Nat) (q : vw_C), vwCl[k]? = some q → u_Kn s q.1 q.2.1 q.2.2 (D.1 k) (D.2 k) := by
    refine ⟨(fun k => if k = 0 then c0 else if k = 1 then c1 else if k = 2 then c2 else if k = 3 then c3 else if k = 4 then c4 else if k = 5 then c5 else if k = 6 then c6 else if k = 7 then c7 else c8, fun k => if k = 0 then i0 else if k = 1 then i1 else if k = 2 then i2 else if k = 3 then i3 else if k = 4 then i4 else if k = 5 then i5 else if k = 6 then i6 else if k = 7 then i7 else i8), ?_⟩
    intro k q hq
    match k, hq with
    | 0, hq => cases hq; exact hKn0
    | 1, hq => cases hq; exact hKn1
    | 2, hq => cases hq; exact hKn2
    | 3, hq => cases hq; exact hKn3
    | 4, hq => cases hq; exact hKn4
    | 5, hq => cases hq; exact hKn5
    | 6, hq => cases hq; exact hKn6
    | 7, hq => cases hq; exact hKn7
    | 8, hq => cases hq; exact hKn8
    | k + 9, hq => simp [vwCl] at hq
  obtain ⟨cA, kA, comp, hfA, hkA, hkd⟩ := Cond.arrayClass_spec (hg (.arrayClass .int) (lwg_of 89 (by decide +kernel) rfl))
  have hK : va_K D vwCl [(cA, .int)] s := ⟨hKc, fun k q h => by
    have hz : k < 1 := (List.getElem?_eq_some_iff.mp h).1
    rw [show k = 0 by omega] at h
    cases h
    exact ⟨fun n z => ⟨fun k h => (by cases h), kA, hkA, comp, hkd⟩, hfA⟩⟩
  have hS : va_S A s.heap s.heap [] := va_S.rf
  have hP : va_P D vwCl [] s.heap := fun k q h => by simp at h
  have hD : va_D A [] := ⟨fun i j p q h => by simp at h, fun k q h => by simp at h⟩
  have hl := lv_entry ([.ref b]) (n := 7) (Nat.le_of_ble_eq_true rfl)
  rw [lg_entry_eq]
  generalize (lg_sl ([.ref b]) ++ List.replicate (7 - (lg_sl ([.ref b])).length) Slot.unset).toArray = ls at hl ⊢
  have hl : lv_has ls 7 [(0, .ref b)] := hl
  have hcf : CallFix p m c code 7 s #[Value.ref b] lwg RL := ⟨hx, hb, hml, hown, hg⟩
  refine va_new (ci := 7) (fs := [.null, .null, .null, .null, .null, .null, .null]) (C := RX7) (T := TX7) (N := 7) hx hb hg (ra_clsfacts 7 RX7 TX7 7 rfl).1 tyX7 tyX7_ok hown (hg _ (lwg_of 15 (by decide +kernel) rfl)) (hg _ (lwg_of 16 (by decide +kernel) rfl)) (hg _ (lwg_of 1 (by decide +kernel) rfl)) hK hP hD hS hA rfl (fun j hj => by rcases (show j = 0 ∨ j = 1 ∨ j = 2 ∨ j = 3 ∨ j = 4 ∨ j = 5 ∨ j = 6 by omega) with rfl | rfl | rfl | rfl | rfl | rfl | rfl <;> rfl) (Nat.le_of_ble_eq_true rfl) (Nat.le_of_ble_eq_true rfl) dL_law_0 (fun q0 H hP hD hS => ?_)
  have hP : va_P D vwCl [(q0, .inr (7, [.null, .null, .null, .null, .null, .null, .null]))] H := hP
  have hD : va_D A [(q0, .inr (7, [.null, .null, .null, .null, .null, .null, .null]))] := hD
  refine lv_dup hx hb dL_law_3 rfl ?_
  have hFc : ∀ q, va_A [(q0, .inr (7, [.null, .null, .null, .null, .null, .null, .null]))] H.size q → A q := va_free (wc := [(q0, .inr (7, [.null, .null, .null, .null, .null, .null, .null]))]) hD hS hA [0] rfl
  refine va_callv (va_runI (As := []) (rest := [.ref q0]) hcf (ci_X7_init l D cA (fun _ => fc) q0 H.size) (cwI 0 hg (ra_good ok_X7_init) rfl rfl rfl (hg _ ok_X7_init.2.2.1) (hg _ (lwg_of 17 (by decide +kernel) rfl)) (hg _ (lwg_of 18 (by decide +kernel) rfl)) rfl ⟨ok_X7_init.1.2.1, ok_X7_init.1.2.2, by decide +kernel⟩ ⟨Nat.le_of_ble_eq_true rfl, Nat.le_of_ble_eq_true rfl⟩) ⟨ki_blind7, fun U hU hW => ⟨rfl, by rw [hU], by rw [hU]; exact hP, va_K.moved hW.alike hK, hD.weaken (fun _ _ _ _ => trivial), ki_sta hsta0 hS hFc U hU hW, va_Nw.warmM hW (va_Nw.of rfl (hts _ gw18_in)), va_Nw.warmM hW (va_Nw.of rfl (hts _ gw59_in))⟩⟩ rfl rfl hl.1 rfl (lv_room (Nat.le_of_ble_eq_true rfl)) dL_law_4 ⟨Nat.le_of_ble_eq_true rfl, Nat.le_of_ble_eq_true rfl⟩) hS (fun q _ h => hFc q h) hFc (fun u t H1 locs ht hvm hu hB hz1 hk1 hS => ?_)
  obtain ⟨hP1, hD1⟩ := hB
  rw [ht] at hP1
  obtain ⟨ad1, had⟩ : ∃ ad1 : Nat → Nat, ad1 = fun k => if k < 32 then u k else fc := ⟨_, rfl⟩
  have hwn : ra_wn 32 cA u MC0 = ra_wn 32 cA ad1 MC0 := by rw [had]; rfl
  rw [hwn] at hP1 hD1
  have hD1 : va_D A (ra_wn 32 cA ad1 MC0) := hD1.weaken (fun _ _ _ h => hFc _ h)
  have hq0 : q0 = ad1 0 := by rw [had]; exact hu.symm
  have hsta1 : ra_sta ad1 A s s.heap := by
    have e9 : ad1 roP = fc := by rw [had]; rfl
    obtain ⟨z1, z2, z3⟩ := hsta0
    unfold ra_sta
    rw [e9]
    exact ⟨z1, z2, z3⟩
  rw [hq0]
  refine lv_astore_n hx hb dL_law_7 rfl hl (Nat.le_of_ble_eq_true rfl) rfl (fun ls2 hl2 => ?_)
  have hl2 : lv_has ls2 7 [(1, .ref (ad1 0)), (0, .ref b)] := hl2
  refine va_new (ci := 8) (fs := [.null, .null, .null, .null, .int (Int32.ofInt 0), .null, .null, .int (Int32.ofInt 0), .int (Int32.ofInt 0), .int (Int32.ofInt 0), .null, .int (Int32.ofInt 0), .null, .null, .int (Int32.ofInt 0), .int (Int32.ofInt 0), .null, .null, .null, .int (Int32.ofInt 0), .null, .null, .int (Int32.ofInt 0), .null, .null, .int (Int32.ofInt 0), .null, .int (Int32.ofInt 0), .int (Int32.ofInt 0), .null, .null, .null, .null, .int (Int32.ofInt 0), .int (Int32.ofInt 0)]) (C := RX8) (T := TX8) (N := 35) hx hb hg (ra_clsfacts 8 RX8 TX8 35 rfl).1 tyX8 tyX8_ok hown (hg _ (lwg_of 743 (by decide +kernel) rfl)) (hg _ (lwg_of 744 (by decide +kernel) rfl)) (hg _ (lwg_of 9 (by decide +kernel) rfl)) hK hP1 hD1 hS hA rfl (fun j hj => by
    have h9 : j = 0 ∨ j = 1 ∨ j = 2 ∨ j = 3 ∨ j = 4 ∨ j = 5 ∨ j = 6 ∨ j = 7 ∨ j = 8 ∨ j = 9 ∨ j = 10 ∨ j = 11 ∨ j = 12 ∨ j = 13 ∨ j = 14 ∨ j = 15 ∨ j = 16 ∨ j = 17 ∨ j = 18 ∨ j = 19 ∨ j = 20 ∨ j = 21 ∨ j = 22 ∨ j = 23 ∨ j = 24 ∨ j = 25 ∨ j = 26 ∨ j = 27 ∨ j = 28 ∨ j = 29 ∨ j = 30 ∨ j = 31 ∨ j = 32 ∨ j = 33 ∨ j = 34 := by omega
    rcases h9 with rfl | rfl | rfl | rfl | rfl | rfl | rfl | rfl | rfl | rfl | rfl | rfl | rfl | rfl | rfl | rfl | rfl | rfl | rfl | rfl | rfl | rfl | rfl | rfl | rfl | rfl | rfl | rfl | rfl | rfl | rfl | rfl | rfl | rfl | rfl <;> rfl) (Nat.le_of_ble_eq_true rfl) (Nat.le_of_ble_eq_true rfl) dL_law_8 (fun q1 H2 hP2 hD2 hS2 => ?_)
  refine lv_dup hx hb dL_law_11 rfl ?_
  have hFc2 : ∀ q, va_A (ra_wn 32 cA ad1 MC0 ++ [(q1, .inr (8, [.null, .null, .null, .null, .int (Int32.ofInt 0), .null, .null, .int (Int32.ofInt 0), .int (Int32.ofInt 0), .int (Int32.ofInt 0), .null, .int (Int32.ofInt 0), .null, .null, .int (Int32.ofInt 0), .int (Int32.ofInt 0), .null, .null, .null, .int (Int32.ofInt 0), .null, .null, .int (Int32.ofInt 0), .null, .null, .int (Int32.ofInt 0), .null, .int (Int32.ofInt 0), .int (Int32.ofInt 0), .null, .null, .null, .null, .int (Int32.ofInt 0), .int (Int32.ofInt 0)]))]) H2.size q → A q := by
    intro q h
    rcases h with ⟨k, e9, h⟩ | h
    · exact hD2.2 k (q, e9) h
    · exact hA q (Nat.le_trans hS2.1 h)
  refine va_callv (va_runI (As := []) (rest := [.ref q1]) hcf (ci_X8_init l D cA ad1 MC0 okMC0 q1 H2.size) (cwI 0 hg (ra_good ok_X8_init) rfl rfl rfl (hg _ ok_X8_init.2.2.1) (hg _ (lwg_of 745 (by decide +kernel) rfl)) (hg _ (lwg_of 746 (by decide +kernel) rfl)) rfl ⟨ok_X8_init.1.2.1, ok_X8_init.1.2.2, by decide +kernel⟩ ⟨Nat.le_of_ble_eq_true rfl, Nat.le_of_ble_eq_true rfl⟩) ⟨ki_blindS, fun U hU hW => ⟨rfl, by rw [hU], by rw [hU]; exact hP2, va_K.moved hW.alike hK, hD2.weaken (fun _ _ _ _ => trivial), ki_sta hsta1 hS2 hFc2 U hU hW⟩⟩ rfl rfl hl2.1 rfl (lv_room (Nat.le_of_ble_eq_true rfl)) dL_law_12 ⟨Nat.le_of_ble_eq_true rfl, Nat.le_of_ble_eq_true rfl⟩) hS2 (fun q _ h => hFc2 q h) hFc2 (fun u2 t2 H3 locs3 ht3 hvm3 hu2 hB3 hz3 hk3 hS3 => ?_)
  obtain ⟨ad2, M2⟩ := u2
  obtain ⟨hP3, hD3⟩ := hB3
  rw [ht3] at hP3
  obtain ⟨ha1, ha2, ha3, oM2, hs9, hm9, h14, h27, h15, hf9⟩ := hu2
  dsimp only at ha1 ha2 ha3 oM2 hs9 hm9 h14 h27 h15 hf9 hP3 hD3
  have hD3 : va_D A (ra_w cA ad2 M2) := hD3.weaken (fun _ _ _ h => hFc2 _ h)
  have hv : Iv 0 M2 := iv_0 (fun k hk => by
    rw [hf9.1 k (by omega) (by simp; omega)]
    funext j
    unfold MM0
    exact if_pos hk) hs9 hm9 h14 h27 h15 hf9
  have hsta2 : ra_sta ad2 A s s.heap := by
    obtain ⟨z1, z2, z3⟩ := hsta1
    unfold ra_sta
    rw [ha3]
    exact ⟨z1, z2, z3⟩
  rw [← ha2]
  refine lv_astore_n hx hb dL_law_15 rfl hl2 (Nat.le_of_ble_eq_true rfl) rfl (fun ls3 hl3 => ?_)
  have hl3 : lv_has ls3 7 [(2, .ref (ad2 32)), (1, .ref (ad1 0)), (0, .ref b)] := hl3
  rw [← ha1 0 (by omega)] at hl3
  refine lv_iconst (v := Int32.ofInt 1) hx hb dL_law_16 rfl ?_
  refine va_newa hx hb (hg _ (lwg_of 1023 (by decide +kernel) rfl)) (ty := .long) rfl hK hP3 hD3 hS3 hA (N' := 1) (a0 := (1, .inr (.inl (fun _ => 0)))) (fun cA9 => by rw [vp_cell_l]; rfl) (by decide) (by decide) (by decide) (Nat.le_of_ble_eq_true rfl) (Nat.le_of_ble_eq_true rfl) dL_law_17 (fun qo cL H4 hK4 hP4 hD4 hS4 => ?_)
  have hP4 : va_P D vwCl (w2 cA ad2 M2 qo cL (fun _ => 0)) H4 := hP4
  have hD4 : va_D A (w2 cA ad2 M2 qo cL (fun _ => 0)) := hD4
  have hK4 : va_K D vwCl [(cA, .int), (cL, .long)] s := hK4
  refine lv_astore_n hx hb dL_law_19 rfl hl3 (Nat.le_of_ble_eq_true rfl) rfl (fun ls4 hl4 => ?_)
  have hl4 : lv_has ls4 7 [(3, .ref qo), (2, .ref (ad2 32)), (1, .ref (ad2 0)), (0, .ref b)] := hl4
  refine lv_iconst (v := Int32.ofInt (3 * ((0 : Nat) : Int))) hx hb dL_law_20 rfl ?_
  refine lv_istore hx hb dL_law_21 hl4 (Nat.le_of_ble_eq_true rfl) (lv' := [(4, .int (Int32.ofInt (3 * ((0 : Nat) : Int)))), (3, .ref qo), (2, .ref (ad2 32)), (1, .ref (ad2 0)), (0, .ref b)]) rfl (fun ls5 hl5 => ?_)
  refine lw_loop hst (xs := xs) (L := L) (A := A) ⟨hcf, hX, hbl, hnA b hbl, hL, hK4, hsta2, hth, hA⟩ (fun f M H locs ls cells slots h1 h2 I => ?_) 512 0 (fun _ => 0) M2 H4 locs3 ls5 _ _ (by omega) (Nat.le_of_ble_eq_true rfl) (Nat.le_of_ble_eq_true rfl) (by omega) hv ⟨oM2, hP4, hD4, hS4⟩ (lv_sub hl5 [4, 3, 2, 1, 0] rfl)
  refine lv_iconst (v := 1) hx hb dL_law_745 rfl ?_
  refine va_forget (fun q hq => hAb _ (I.2.2.2.2.2 q hq)) ?_
  exact W.widen h1 h2 (lw_ret hx hb hr hlocks dL_law_746)
set_option maxHeartbeats 4000000 in
theorem lw_walk (l : Launch) (hst : l.stackTraces = false) (b : Addr) (xs : List Int32) : MetFree l x (headSpec (Jvm.Cond.code x code maxLocals ret :: tables_1) room_1) (lw_P b xs) (fun _ _ _ _ _ => True) lw_Q := by
  refine MetFree.of_bodyS (code := code) (maxLocals := maxLocals) (ret := ret) (by decide) ?_ ?_
  · intro args s m h hn
    obtain ⟨meth, c, h1, h2, h3, h4, h5, h6, -, -⟩ := Cond.code_spec hn (atoms_spec (ws := Jvm.Cond.code x code maxLocals ret :: tables_1) h _ List.mem_cons_self)
    exact ⟨meth, c, h1, h2, h3, h4, h5, h6⟩
  · intro p e s m args below meth c s₁ B hml0 hP _
    obtain ⟨rfl, hx, hbd, hgv⟩ := hP
    obtain ⟨scr, harrAt, hlist, hof, hsmall⟩ := hx
    obtain ⟨hcb, hkn, -, -⟩ := State.arrayAt?_spec harrAt
    have hown : s.vm.findClass R_law = some m.cls := findClass_of_methodNamed B.named
    have hts0 : ∀ c ∈ (Jvm.Cond.code x code maxLocals ret :: tables_1), c.before #[Value.ref b] s = true := atoms_spec (ws := Jvm.Cond.code x code maxLocals ret :: tables_1) B.pre
    have hts : ∀ w ∈ lw_tbl, w.before #[Value.ref b] s = true := k2_hts_sels lw_privs (fun w hw => hts0 w (List.mem_cons_of_mem _ hw)) lw_privs_ok
    have hml : c.maxLocals = 7 := B.maxLocals_eq (hts0 _ List.mem_cons_self)
    have X₀ : Stand p l e room_1 s m #[Value.ref b] below meth c s₁ [] 0 0 := Stand.of_body B
    have hh0 : s₁.heap = s.heap := by rw [B.state]; rfl
    have hsz : scr.slots.size = xs.length := by rw [← Array.length_toList, hlist, List.length_map]
    have hval : ∀ j : Nat, j < xs.length → scr.slots[j]? = some (.int (xs.getD j 0)) := fun j hj => by
      rw [← Array.getElem?_toList, hlist]
      simp [hj]
    have hbl : b < s.heap.size := (Array.getElem?_eq_some_iff.mp hcb).1
    have hX : va_X b xs.length (fun j => xs.getD j 0) s s.heap := ⟨scr, hcb, hof, hkn, hsz, hval⟩
    have K : W p l e room_1 s m #[Value.ref b] below meth c s₁.heap [] 0 0 (lw_Z below #[Value.ref b] s) (entryFrame m ([Value.ref b] : List Value).toArray 7) := by
      rw [hh0]
      exact whole_start l hst hbd ⟨B.exec, B.bytes, B.returns, hml, hown, hts, hX, hbl, B.notSynchronized, hgv⟩
    obtain ⟨t, a1, o, b1, b2, b3⟩ := K s₁ rfl X₀
    exact ⟨t, o, a1, b1, b2, b3⟩
theorem lw_pre_spec {args : Array Value} {s : State} (h : (Jvm.Cond.and given_1 narrow_1).before args s = true) (hr : rest_1_c.before args s = true) : ∃ (b : Addr) (xs : List Int32), lw_P b xs args s := by
  have hs := flat_of_before _ h
  have hq := flat_of_before _ hr
  have hc : (Cond.count 1).before args s = true := hs _ (by decide +kernel)
  have harr : (Cond.arrayOf (.arg 0) .int).before args s = true := hs _ (by decide +kernel)
  have hle : (Cond.le (.length (.arg 0)) (.int 1536)).before args s = true := hs _ (by decide +kernel)
  have hlen : (Cond.isInt (.length (.arg 0))).before args s = true := hq _ (by decide +kernel)
  have hall : (Cond.all (.arg 0) (.isInt (.elem (.arg 0) (.index 0)))).before args s = true := hq _ (by decide +kernel)
  obtain ⟨b, xs, hb, hx⟩ := State.ints_of_pre rfl harr hlen hall
  have hsm : xs.length < 2 ^ 31 := hx.choose_spec.2.2.2
  have hev : (Term.length (.arg 0)).eval args s none [] s = some (.int xs.length.toInt32) := hx.length_eval hb
  have hv := Cond.le_ints hev (show (Term.int 1536).eval args s none [] s = some (.int 1536) from rfl)
  have hd : xs.length.toInt32 ≤ 1536 := by
    simpa [Cond.before, Cond.holds, hv] using hle
  have hN : xs.length ≤ 1536 := (Int32.ofNat_le_ofNat hsm (by decide)).mp (show Int32.ofNat xs.length ≤ Int32.ofNat 1536 from hd)
  exact ⟨b, xs, Cond.one_arg hc (show args[0]? = some (.ref b) from hb), hx, hN, h⟩
theorem lw_comes (l : Launch) (hst : l.stackTraces = false) : Comes l x (Jvm.Cond.code x code maxLocals ret :: tables_1) room_1 (fun tb e args s => Calls_1 tb e args s ∧ rest_1 tb e args s ∧ Pre_1 tb e args s)
    (fun _ _ args s o t => lw_Q args s o t) := by
  intro p e ha hc hk s m args below hf hfit hheap happ hpre
  obtain ⟨b, xs, hP⟩ := lw_pre_spec hpre.2.2 hpre.2.1
  obtain ⟨k, o, h1, h2, h3, hQ⟩ := lw_walk l hst b xs p e ha hc hk s m args below hf ((Spec.applies_iff_loose hf).mp happ).1 hP trivial
  exact ⟨k, o, h1, h2, h3, hQ⟩
theorem lw_frame {s t : State} {o : Outcome} {args : Array Value} (h : Framed s o t [] 601024 7293034) :
    Framed s o t (fieldLocs frame_1_writes args s ++ arrayLocs frame_1_arrays args s ++ staticLocs frame_1_statics s) 601024 7293034 := h
theorem lw_limb (L : Cond) (hL : ∀ (args : Array Value) (s t : State), L.after args s (.returned (some (.int 1))) t = true) :
    ArmFor flags0 classFile x code maxLocals ret World_1 tables_1 room_1 Calls_1 rest_1 Pre_1
      (fun tb e a s o t => postC L tb e a s o t ∧ Framed s o t (fieldLocs frame_1_writes a s ++ arrayLocs frame_1_arrays a s ++ staticLocs frame_1_statics s) 601024 7293034) := by
  intro l hfl _ _ p e ha hc hk s m args below hf hfit hheap happ hpre
  have hst : l.stackTraces = false := by
    unfold Launch.stackTraces
    rw [hfl]
    decide +kernel
  obtain ⟨k, o, h1, h2, h3, rfl, hF⟩ := lw_comes l hst p e ha hc hk s m args below hf hfit hheap happ hpre
  exact ⟨k, _, h1, h2, h3, hL args s _, lw_frame hF⟩
theorem i_vc : Claimed_1_1 ∧ Claimed_1_2 := ⟨lw_limb limb_1_1 (fun args s t => by simp [limb_1_1, Cond.after, Cond.holds, Cond.value]), lw_limb limb_1_2 (fun args s t => Cond.after_iff.mpr (by
  first | (rw [show limb_1_2 = Cond.eq .result (.int 1) from rfl, Cond.eq_ints (x := 1) (y := 1) rfl rfl]; simp; done) | (simp [limb_1_2, Cond.value, Term.eval]; done)))⟩
