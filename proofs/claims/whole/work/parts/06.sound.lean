/-! THE ABSTRACT MACHINE IS SOUND: what it says of a method, the method's contract says of the machine. -/
def ra_has (ad : Nat → Nat) (ls : Array Slot) (nL : Nat) (L : ra_L) : Prop := ls.size = nL ∧ lv_wf ls ∧ L.length = nL ∧ ∀ (i : Nat) (v : ra_V), L[i]? = some (some v) → ls[i]? = some (.val (ra_cv ad v))
def ra_en (ad : Nat → Nat) (L : ra_L) : List (Nat × Value) := (List.range L.length).filterMap fun i => match L[i]? with
  | some (some v) => some (i, ra_cv ad v)
  | _ => none
theorem ra_en_of {ad : Nat → Nat} {L : ra_L} {i : Nat} {w : Value} (h : (i, w) ∈ ra_en ad L) : ∃ v, L[i]? = some (some v) ∧ w = ra_cv ad v := by
  obtain ⟨k, hk, he⟩ := List.mem_filterMap.mp h
  rcases hv : L[k]? with _ | _ | v
  · rw [hv] at he; cases he
  · rw [hv] at he; cases he
  · rw [hv] at he
    cases he
    exact ⟨v, hv, rfl⟩
theorem ra_en_in {ad : Nat → Nat} {L : ra_L} {i : Nat} {v : ra_V} (h : L[i]? = some (some v)) : (i, ra_cv ad v) ∈ ra_en ad L := by
  refine List.mem_filterMap.mpr ⟨i, List.mem_range.mpr (List.getElem?_eq_some_iff.mp h).1, ?_⟩
  rw [h]
theorem ra_has.en {ad : Nat → Nat} {ls : Array Slot} {nL : Nat} {L : ra_L} (h : ra_has ad ls nL L) : lv_has ls nL (ra_en ad L) := by
  refine ⟨h.1, h.2.1, fun q hq => ?_⟩
  obtain ⟨i, w⟩ := q
  obtain ⟨v, h1, h2⟩ := ra_en_of hq
  rw [h2]
  exact h.2.2.2 i v h1
theorem ra_cat (ad : Nat → Nat) (v : ra_V) : (ra_cv ad v).category = if ra_lng (some (some v)) then 2 else 1 := by
  rcases v with z | z | k <;> rfl
theorem ra_st_get {L : ra_L} {i j : Nat} {v u : ra_V} (h : (ra_st L i v)[j]? = some (some u)) : (j = i ∧ u = v) ∨ (j ≠ i ∧ L[j]? = some (some u) ∧ ¬ (j + 1 = i ∧ ra_lng (some (some u)) = true)) := by
  by_cases hj : j = i
  · subst hj
    left
    refine ⟨rfl, ?_⟩
    unfold ra_st at h
    rw [List.getElem?_set] at h
    simp at h
    obtain ⟨-, h⟩ := h
    exact h.symm
  · right
    refine ⟨hj, ?_⟩
    unfold ra_st at h
    rw [List.getElem?_set_ne (fun q => hj q.symm)] at h
    cases i with
    | zero => exact ⟨h, fun q => by omega⟩
    | succ i =>
      simp only at h
      split at h
      next hl =>
        by_cases hji : i = j
        · subst hji
          rw [List.getElem?_set] at h
          simp at h
        · rw [List.getElem?_set_ne hji] at h
          exact ⟨h, fun q => by omega⟩
      next hl =>
        refine ⟨h, fun q => ?_⟩
        have : j = i := by omega
        subst this
        rw [h] at hl
        exact hl q.2
theorem ra_st_len (L : ra_L) (i : Nat) (v : ra_V) : (ra_st L i v).length = L.length := by
  unfold ra_st
  rw [List.length_set]
  cases i with
  | zero => rfl
  | succ i => simp only; split <;> simp
theorem ra_okL_st {L : ra_L} {i : Nat} {v : ra_V} (h : ra_okL L) (hv : ra_okV v) : ra_okL (ra_st L i v) := by
  intro j u hj
  rcases ra_st_get hj with ⟨-, rfl⟩ | ⟨-, h1, -⟩
  · exact hv
  · exact h j u h1
theorem ra_st2_get {L : ra_L} {i j : Nat} {v u : ra_V} (h : (ra_st2 L i v)[j]? = some (some u)) : (j = i ∧ u = v) ∨ (j ≠ i ∧ j ≠ i + 1 ∧ L[j]? = some (some u) ∧ ¬ (j + 1 = i ∧ ra_lng (some (some u)) = true)) := by
  unfold ra_st2 at h
  by_cases hj : j = i + 1
  · subst hj
    rw [List.getElem?_set] at h
    simp at h
  · rw [List.getElem?_set_ne (fun q => hj q.symm)] at h
    rcases ra_st_get h with h1 | ⟨h1, h2, h3⟩
    · exact Or.inl h1
    · exact Or.inr ⟨h1, hj, h2, h3⟩
theorem ra_okL_st2 {L : ra_L} {i : Nat} {v : ra_V} (h : ra_okL L) (hv : ra_okV v) : ra_okL (ra_st2 L i v) := by
  intro j u hj
  rcases ra_st2_get hj with ⟨-, rfl⟩ | ⟨-, -, h1, -⟩
  · exact hv
  · exact h j u h1
theorem ra_has.st {ad : Nat → Nat} {ls : Array Slot} {nL : Nat} {L : ra_L} {i : Nat} {v : ra_V} (hn : L.length = nL) (h : lv_has ls nL ((i, ra_cv ad v) :: (ra_en ad L).filter (fun q => !(q.1 == i) && !(q.1 + 1 == i && q.2.category == 2)))) : ra_has ad ls nL (ra_st L i v) := by
  refine ⟨h.1, h.2.1, by rw [ra_st_len]; exact hn, fun j u hj => ?_⟩
  rcases ra_st_get hj with ⟨rfl, rfl⟩ | ⟨h1, h2, h3⟩
  · exact h.2.2 (j, ra_cv ad u) List.mem_cons_self
  · refine h.2.2 (j, ra_cv ad u) (List.mem_cons_of_mem _ (List.mem_filter.mpr ⟨ra_en_in h2, ?_⟩))
    have h4 : (j == i) = false := by simpa using h1
    by_cases h5 : j + 1 = i
    · have h6 : ra_lng (some (some u)) = false := by
        cases hl : ra_lng (some (some u))
        · rfl
        · exact absurd ⟨h5, hl⟩ h3
      have h7 : (ra_cv ad u).category = 1 := by rw [ra_cat, h6]; rfl
      simp [h4, h7]
    · have h6 : (j + 1 == i) = false := by simpa using h5
      simp [h4, h6]
theorem ra_has.st2 {ad : Nat → Nat} {ls : Array Slot} {nL : Nat} {L : ra_L} {i : Nat} {v : ra_V} (hn : L.length = nL) (h : lv_has ls nL ((i, ra_cv ad v) :: (ra_en ad L).filter (fun q => !(q.1 == i) && (!(q.1 == i + 1) && !(q.1 + 1 == i && q.2.category == 2))))) : ra_has ad ls nL (ra_st2 L i v) := by
  refine ⟨h.1, h.2.1, by unfold ra_st2; rw [List.length_set, ra_st_len]; exact hn, fun j u hj => ?_⟩
  rcases ra_st2_get hj with ⟨rfl, rfl⟩ | ⟨h1, h1', h2, h3⟩
  · exact h.2.2 (j, ra_cv ad u) List.mem_cons_self
  · refine h.2.2 (j, ra_cv ad u) (List.mem_cons_of_mem _ (List.mem_filter.mpr ⟨ra_en_in h2, ?_⟩))
    have h4 : (j == i) = false := by simpa using h1
    have h4' : (j == i + 1) = false := by simpa using h1'
    by_cases h5 : j + 1 = i
    · have h6 : ra_lng (some (some u)) = false := by
        cases hl : ra_lng (some (some u))
        · rfl
        · exact absurd ⟨h5, hl⟩ h3
      have h7 : (ra_cv ad u).category = 1 := by rw [ra_cat, h6]; rfl
      simp [h4, h4', h7]
    · have h6 : (j + 1 == i) = false := by simpa using h5
      simp [h4, h4', h6]
/-! the locals at the entry -/
theorem ra_sl_in (ad : Nat → Nat) : ∀ (as : List ra_V) (o i : Nat) (v : ra_V), (ra_sl as)[i]? = some (some v) → (o + i, ra_cv ad v) ∈ lv_args o (as.map (ra_cv ad)) := by
  intro as
  induction as with
  | nil => intro o i v h; simp [ra_sl] at h
  | cons a as ih =>
    intro o i v h
    have hc := ra_cat ad a
    by_cases hl : ra_lng (some (some a)) = true
    · rw [hl] at hc
      have e : ra_sl (a :: as) = some a :: none :: ra_sl as := by simp [ra_sl, hl]
      rw [e] at h
      show _ ∈ (o, ra_cv ad a) :: lv_args (if (ra_cv ad a).category = 2 then o + 2 else o + 1) (as.map (ra_cv ad))
      rw [hc]
      match i, h with
      | 0, h => simp at h; subst h; exact List.mem_cons_self
      | 1, h => simp at h
      | i + 2, h =>
        simp only [List.getElem?_cons_succ] at h
        have := ih (o + 2) i v h
        refine List.mem_cons_of_mem _ ?_
        rw [show o + (i + 2) = o + 2 + i by omega]
        simpa using this
    · have hl' : ra_lng (some (some a)) = false := by simpa using hl
      rw [hl'] at hc
      have e : ra_sl (a :: as) = some a :: ra_sl as := by simp [ra_sl, hl']
      rw [e] at h
      show _ ∈ (o, ra_cv ad a) :: lv_args (if (ra_cv ad a).category = 2 then o + 2 else o + 1) (as.map (ra_cv ad))
      rw [hc]
      match i, h with
      | 0, h => simp at h; subst h; exact List.mem_cons_self
      | i + 1, h =>
        simp only [List.getElem?_cons_succ] at h
        have := ih (o + 1) i v h
        refine List.mem_cons_of_mem _ ?_
        rw [show o + (i + 1) = o + 1 + i by omega]
        simpa using this
theorem ra_sl_len (ad : Nat → Nat) : ∀ as : List ra_V, (lg_sl (as.map (ra_cv ad))).length = (ra_sl as).length := by
  intro as
  induction as with
  | nil => rfl
  | cons a as ih =>
    have hc := ra_cat ad a
    have e1 : lg_sl ((a :: as).map (ra_cv ad)) = (if (ra_cv ad a).category = 2 then [.val (ra_cv ad a), .second] else [.val (ra_cv ad a)]) ++ lg_sl (as.map (ra_cv ad)) := rfl
    have e2 : ra_sl (a :: as) = (if ra_lng (some (some a)) then [some a, none] else [some a]) ++ ra_sl as := rfl
    rw [e1, e2, List.length_append, List.length_append, ih, hc]
    by_cases hl : ra_lng (some (some a)) = true
    · simp [hl]
    · simp [hl]
theorem ra_okL_ini {mi : Nat} {as : List ra_V} (h : ∀ v ∈ as, ra_okV v) : ra_okL (ra_ini mi as) := by
  intro i v hi
  unfold ra_ini at hi
  have hm : some v ∈ ra_sl as ++ List.replicate (mX mi - (ra_sl as).length) none := List.mem_of_getElem? hi
  rcases List.mem_append.mp hm with h1 | h1
  · obtain ⟨a, ha, hv⟩ := List.mem_flatMap.mp h1
    split at hv
    · rcases List.mem_cons.mp hv with h2 | h2
      · cases h2; exact h _ ha
      · simp at h2
    · simp at hv; subst hv; exact h _ ha
  · have := List.eq_of_mem_replicate h1
    cases this
theorem ra_has_ini {ad : Nat → Nat} {mi : Nat} {as : List ra_V} (hl : (ra_sl as).length ≤ mX mi) : ra_has ad ((lg_sl (as.map (ra_cv ad)) ++ List.replicate (mX mi - (lg_sl (as.map (ra_cv ad))).length) Slot.unset).toArray) (mX mi) (ra_ini mi as) := by
  have h := lv_entry (as.map (ra_cv ad)) (n := mX mi) (by rw [ra_sl_len]; exact hl)
  refine ⟨h.1, h.2.1, by simp [ra_ini]; omega, fun i v hi => ?_⟩
  have hi2 : (ra_sl as)[i]? = some (some v) := by
    unfold ra_ini at hi
    by_cases hlt : i < (ra_sl as).length
    · rwa [List.getElem?_append_left hlt] at hi
    · rw [List.getElem?_append_right (by omega)] at hi
      have hm := List.mem_of_getElem? hi
      have := List.eq_of_mem_replicate hm
      cases this
  have := ra_sl_in ad as 0 i v hi2
  rw [Nat.zero_add] at this
  exact h.2.2 _ this
/-! the contract of a method -/
def mW (mi : Nat) : List Cond := Cond.code (mY mi) (mB mi) (mX mi) (mR mi) :: lwg
def ra_rm (d : Nat) : Room := { frames := d, cells := 0, slots := 0, locals := 34 * d }
def ra_fcv (j : Nat) : Value := .int (Int32.ofInt (ra_fc (j : Nat)))
/-- what stands still: the array of the first costs, and the link to it -/
def ra_sta (ad : Nat → Nat) (A : Nat → Prop) (U : State) (H : Heap) : Prop := va_Z "FollowScore" "FIRST_COSTS" "[I" (.ref (ad roP)) A U H ∧ va_T .int (ad roP) 5 ra_fcv A U H ∧ va_Nw ra_gw U
def ra_B (D : va_G) (cA : ClassId) (ad : Nat → Nat) (M : ra_M) (sz : Nat) (U : State) : Prop := U.heap.size = sz ∧ va_P D vwCl (ra_w cA ad M) U.heap ∧ va_K D vwCl [(cA, .int)] U ∧ va_D (fun _ => True) (ra_w cA ad M) ∧ ra_sta ad (va_A (ra_w cA ad M) sz) U U.heap
def ra_Pc (D : va_G) (cA : ClassId) (ad : Nat → Nat) (as : List ra_V) (M : ra_M) (sz : Nat) : Array Value → State → Prop := va_Pc (as.map (ra_cv ad)) (ra_B D cA ad M sz)
def ra_Qc (D : va_G) (cA : ClassId) (ad : Nat → Nat) (Q : Option ra_V → ra_M → Prop) (A : Nat → Prop) : Array Value → State → Outcome → State → Prop := fun _ st oc t =>
  (∃ (r : Option ra_V) (M : ra_M), oc = .returned (r.map (ra_cv ad)) ∧ Q r M ∧ ra_okM M ∧ (∀ v, r = some v → ra_okV v) ∧ va_P D vwCl (ra_w cA ad M) t.heap) ∧ va_F A st t
theorem ra_blind {D : va_G} {cA : ClassId} {ad : Nat → Nat} {as : List ra_V} {M : ra_M} {sz : Nat} : FrameBlind (ra_Pc D cA ad as M sz) := by
  intro a U g mk q
  obtain ⟨q0, q1, qP, qK, qD, qZ, qT, qN⟩ := q
  exact ⟨q0, q1, qP, va_K.moved (u := U) (U := U.calling g mk a) (Vm.Alike.refl U.vm) qK, qD, va_Z.moved (u := U) (U := U.calling g mk a) (Vm.Alike.refl U.vm) qZ, va_T.moved (u := U) (U := U.calling g mk a) (Vm.Alike.refl U.vm) qT, va_Nw.same (u := U) (U := U.calling g mk a) rfl rfl qN⟩
theorem ra_good {mi : Nat} (h : ra_ok mi) : GoodIn lwg (mW mi) := by
  have key : ∀ w ∈ lwg, w ∈ lwg ∧ ((w.onTables && w.keeps) = true ∨ ∃ ty, w = .arrayClass ty) := fun w hw => ⟨hw, good_of_word (List.mem_filter.mp hw).2⟩
  intro w hw
  rcases List.mem_cons.mp hw with h1 | h1
  · rw [h1]
    exact key _ h.2.1
  · exact key w h1
/-- what a method's walk stands on -/
def ra_X (p : Program) (s : State) (m : MethodId) (args : Array Value) (meth : Method) (c : Code) (D : va_G) (cA : ClassId) (ad : Nat → Nat) (A : Nat → Prop) (mi : Nat) : Prop :=
  p.tables.exec = Jvm.exec ∧ c.code = mB mi ∧ c.maxLocals = mX mi ∧ meth.sig.returnType = mR mi ∧ meth.locks = false ∧ s.vm.findClass (mY mi).cls = some m.cls ∧ (∀ w ∈ lwg, w.before args s = true) ∧ va_K D vwCl [(cA, .int)] s ∧ ra_sta ad A s s.heap
/-- the machine at an abstract state -/
def ra_KW (p : Program) (l : Launch) (e : Env) (R : Room) (s : State) (m : MethodId) (args : Array Value) (below : List Frame) (meth : Method) (c : Code) (QF : State → Prop) (D : va_G) (cA : ClassId) (ad : Nat → Nat) (A : Nat → Prop) (nL : Nat) : Nat → ra_L → List ra_V → ra_M → Prop := fun pc L St M =>
  ∀ (H : Heap) (locs : List Loc) (ls : Array Slot), ra_okL L → ra_okS St → ra_okM M → ra_has ad ls nL L → va_P D vwCl (ra_w cA ad M) H → va_D A (ra_w cA ad M) → va_S A s.heap H locs →
    W p l e R s m args below meth c H locs 0 0 QF (F0 m pc ls (St.map (ra_cv ad)))
theorem ra_okS_c {v : ra_V} {st : List ra_V} : ra_okS (v :: st) ↔ ra_okV v ∧ ra_okS st := List.forall_mem_cons
theorem ra_clsfacts : ∀ (ci : Nat) (C : String) (T : u_T) (N : Nat), vwCl[ci]? = some (C, T, N) → (∀ w ∈ u_ws C T N, w ∈ lwg) ∧ ∃ ty0 : Nat → FieldType, (∀ k, k < N → parseFieldDescriptor (T k).2.2.1 = some (ty0 k)) ∧ (∀ a, a < N → ∀ b, b < N → a ≠ b → (T a).2.1 ≠ (T b).2.1) := by
  intro ci C T N h
  match ci, h with
  | 0, h => cases h; exact ⟨by decide +kernel, tyX0, tyX0_ok, nmX0⟩
  | 1, h => cases h; exact ⟨by decide +kernel, tyX1, tyX1_ok, nmX1⟩
  | 2, h => cases h; exact ⟨by decide +kernel, tyX2, tyX2_ok, nmX2⟩
  | 3, h => cases h; exact ⟨by decide +kernel, tyX3, tyX3_ok, nmX3⟩
  | 4, h => cases h; exact ⟨by decide +kernel, tyX4, tyX4_ok, nmX4⟩
  | 5, h => cases h; exact ⟨by decide +kernel, tyX5, tyX5_ok, nmX5⟩
  | 6, h => cases h; exact ⟨by decide +kernel, tyX6, tyX6_ok, nmX6⟩
  | 7, h => cases h; exact ⟨by decide +kernel, tyX7, tyX7_ok, nmX7⟩
  | 8, h => cases h; exact ⟨by decide +kernel, tyX8, tyX8_ok, nmX8⟩
  | k + 9, h => simp [vwCl] at h
