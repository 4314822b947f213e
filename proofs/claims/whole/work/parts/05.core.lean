/-! THE ABSTRACT MACHINE: whole numbers instead of words, places instead of addresses; a method's step as a condition on what follows. -/
abbrev ra_V : Type := Int ⊕ (Int ⊕ Nat)
abbrev ra_M : Type := Nat → Int → Int
abbrev ra_L : Type := List (Option ra_V)
abbrev vI (z : Int) : ra_V := .inl z
abbrev vJ (z : Int) : ra_V := .inr (.inl z)
abbrev vR (k : Nat) : ra_V := .inr (.inr k)
def in32 (z : Int) : Prop := -2147483648 ≤ z ∧ z ≤ 2147483647
def in64 (z : Int) : Prop := -9223372036854775808 ≤ z ∧ z ≤ 9223372036854775807
def ra_fc (z : Int) : Int := if z = 0 then 3 else if z = 1 then 2 else if z = 2 then 2 else if z = 3 then 1 else 6
def up (M : ra_M) (k : Nat) (j z : Int) : ra_M := fun k' j' => if k' = k ∧ j' = j then z else M k' j'
def ra_fa (kd : Nat) (z : Int) : ra_V := if kd ≤ 1 then vI z else vR (kd - 2)
def ra_lng (o : Option (Option ra_V)) : Bool := match o with
  | some (some (.inr (.inl _))) => true
  | _ => false
def ra_st (L : ra_L) (i : Nat) (v : ra_V) : ra_L := (match i with
  | 0 => L
  | j + 1 => if ra_lng L[j]? then L.set j none else L).set i (some v)
def ra_st2 (L : ra_L) (i : Nat) (v : ra_V) : ra_L := (ra_st L i v).set (i + 1) none
def ra_sl (args : List ra_V) : ra_L := args.flatMap fun v => if ra_lng (some (some v)) then [some v, none] else [some v]
def ra_ini (mi : Nat) (args : List ra_V) : ra_L := ra_sl args ++ List.replicate (mX mi - (ra_sl args).length) none
/-- one instruction: what must hold of the state, and of that which follows -/
def ra_stp (C : Nat → List ra_V → ra_M → (Option ra_V → ra_M → Prop) → Prop) (mi : Nat) (Q : Option ra_V → ra_M → Prop) (K : Nat → ra_L → List ra_V → ra_M → Prop) (pc : Nat) (L : ra_L) (St : List ra_V) (M : ra_M) (i : Instr) (len : Nat) : Prop :=
  match i with
  | .iconst n => len = 1 ∧ in32 n ∧ K (pc + 1) L (vI n :: St) M
  | .bipush n => len = 2 ∧ (-128 ≤ n ∧ n ≤ 127) ∧ K (pc + 2) L (vI n :: St) M
  | .sipush n => len = 3 ∧ (-32768 ≤ n ∧ n ≤ 32767) ∧ K (pc + 3) L (vI n :: St) M
  | .lconst n => len = 1 ∧ K (pc + 1) L (vJ ((n : Nat) : Int) :: St) M
  | .ldc x => len = 2 ∧ ∃ z, ra_C (mY mi).cls x z ∧ K (pc + 2) L (vI z :: St) M
  | .ldc2_w x => len = 3 ∧ ∃ z, ra_CJ (mY mi).cls x z ∧ K (pc + 3) L (vJ z :: St) M
  | .iload_n k => len = 1 ∧ ∃ z, L[(k : Nat)]? = some (some (vI z)) ∧ K (pc + 1) L (vI z :: St) M
  | .iload k => len = 2 ∧ ∃ z, L[k]? = some (some (vI z)) ∧ K (pc + 2) L (vI z :: St) M
  | .lload_n k => len = 1 ∧ ∃ z, L[(k : Nat)]? = some (some (vJ z)) ∧ K (pc + 1) L (vJ z :: St) M
  | .lload k => len = 2 ∧ ∃ z, L[k]? = some (some (vJ z)) ∧ K (pc + 2) L (vJ z :: St) M
  | .aload_n k => len = 1 ∧ ∃ z, L[(k : Nat)]? = some (some (vR z)) ∧ K (pc + 1) L (vR z :: St) M
  | .aload k => len = 2 ∧ ∃ z, L[k]? = some (some (vR z)) ∧ K (pc + 2) L (vR z :: St) M
  | .istore_n k => len = 1 ∧ ∃ z st, St = vI z :: st ∧ (k : Nat) < L.length ∧ K (pc + 1) (ra_st L k (vI z)) st M
  | .istore k => len = 2 ∧ ∃ z st, St = vI z :: st ∧ k < L.length ∧ K (pc + 2) (ra_st L k (vI z)) st M
  | .lstore_n k => len = 1 ∧ ∃ z st, St = vJ z :: st ∧ (k : Nat) + 1 < L.length ∧ K (pc + 1) (ra_st2 L k (vJ z)) st M
  | .lstore k => len = 2 ∧ ∃ z st, St = vJ z :: st ∧ k + 1 < L.length ∧ K (pc + 2) (ra_st2 L k (vJ z)) st M
  | .iinc k n => len = 3 ∧ ∃ z, L[k]? = some (some (vI z)) ∧ in32 (z + n) ∧ K (pc + 3) (ra_st L k (vI (z + n))) St M
  | .iadd => len = 1 ∧ ∃ a b st, St = vI b :: vI a :: st ∧ in32 (a + b) ∧ K (pc + 1) L (vI (a + b) :: st) M
  | .isub => len = 1 ∧ ∃ a b st, St = vI b :: vI a :: st ∧ in32 (a - b) ∧ K (pc + 1) L (vI (a - b) :: st) M
  | .imul => len = 1 ∧ ∃ a b st, St = vI b :: vI a :: st ∧ in32 (a * b) ∧ K (pc + 1) L (vI (a * b) :: st) M
  | .ineg => len = 1 ∧ ∃ a st, St = vI a :: st ∧ in32 (-a) ∧ K (pc + 1) L (vI (-a) :: st) M
  | .idiv => len = 1 ∧ ∃ a b st, St = vI b :: vI a :: st ∧ b ≠ 0 ∧ in32 (a.tdiv b) ∧ K (pc + 1) L (vI (a.tdiv b) :: st) M
  | .irem => len = 1 ∧ ∃ a b st, St = vI b :: vI a :: st ∧ b ≠ 0 ∧ in32 (a.tmod b) ∧ K (pc + 1) L (vI (a.tmod b) :: st) M
  | .iand => len = 1 ∧ ∃ (a b : Nat) (st : _), St = vI b :: vI a :: st ∧ K (pc + 1) L (vI ((a &&& b : Nat) : Int) :: st) M
  | .ior => len = 1 ∧ ∃ (a b : Nat) (st : _), St = vI b :: vI a :: st ∧ K (pc + 1) L (vI ((a ||| b : Nat) : Int) :: st) M
  | .ishl => len = 1 ∧ ∃ (a b : Nat) (st : _), St = vI b :: vI a :: st ∧ b < 31 ∧ a * 2 ^ b < 2147483648 ∧ K (pc + 1) L (vI ((a * 2 ^ b : Nat) : Int) :: st) M
  | .ishr => len = 1 ∧ ∃ (a b : Nat) (st : _), St = vI b :: vI a :: st ∧ b < 31 ∧ K (pc + 1) L (vI ((a / 2 ^ b : Nat) : Int) :: st) M
  | .i2l => len = 1 ∧ ∃ a st, St = vI a :: st ∧ K (pc + 1) L (vJ a :: st) M
  | .ladd => len = 1 ∧ ∃ a b st, St = vJ b :: vJ a :: st ∧ in64 (a + b) ∧ K (pc + 1) L (vJ (a + b) :: st) M
  | .lsub => len = 1 ∧ ∃ a b st, St = vJ b :: vJ a :: st ∧ in64 (a - b) ∧ K (pc + 1) L (vJ (a - b) :: st) M
  | .lmul => len = 1 ∧ ∃ a b st, St = vJ b :: vJ a :: st ∧ in64 (a * b) ∧ K (pc + 1) L (vJ (a * b) :: st) M
  | .ldiv => len = 1 ∧ ∃ a b st, St = vJ b :: vJ a :: st ∧ b ≠ 0 ∧ in64 (a.tdiv b) ∧ K (pc + 1) L (vJ (a.tdiv b) :: st) M
  | .lxor => len = 1 ∧ ∃ a b st, St = vJ b :: vJ a :: st ∧ ∀ z, in64 z → (z < 0 ↔ ¬ (a < 0 ↔ b < 0)) → K (pc + 1) L (vJ z :: st) M
  | .lcmp => len = 1 ∧ ∃ a b st, St = vJ b :: vJ a :: st ∧ K (pc + 1) L (vI (if b < a then 1 else if a = b then 0 else -1) :: st) M
  | .dup => len = 1 ∧ ∃ v st, St = v :: st ∧ ra_lng (some (some v)) = false ∧ K (pc + 1) L (v :: v :: st) M
  | .dup2 => len = 1 ∧ ∃ v w st, St = v :: w :: st ∧ ra_lng (some (some v)) = false ∧ ra_lng (some (some w)) = false ∧ K (pc + 1) L (v :: w :: v :: w :: st) M
  | .pop => len = 1 ∧ ∃ v st, St = v :: st ∧ ra_lng (some (some v)) = false ∧ K (pc + 1) L st M
  | .ifCond .eq off => len = 3 ∧ ∃ z st tgt, St = vI z :: st ∧ (pc : Int) + off = (tgt : Nat) ∧ (z = 0 → K tgt L st M) ∧ (¬ z = 0 → K (pc + 3) L st M)
  | .ifCond .ne off => len = 3 ∧ ∃ z st tgt, St = vI z :: st ∧ (pc : Int) + off = (tgt : Nat) ∧ (¬ z = 0 → K tgt L st M) ∧ (z = 0 → K (pc + 3) L st M)
  | .ifCond .lt off => len = 3 ∧ ∃ z st tgt, St = vI z :: st ∧ (pc : Int) + off = (tgt : Nat) ∧ (z < 0 → K tgt L st M) ∧ (¬ z < 0 → K (pc + 3) L st M)
  | .ifCond .ge off => len = 3 ∧ ∃ z st tgt, St = vI z :: st ∧ (pc : Int) + off = (tgt : Nat) ∧ (0 ≤ z → K tgt L st M) ∧ (¬ 0 ≤ z → K (pc + 3) L st M)
  | .ifCond .gt off => len = 3 ∧ ∃ z st tgt, St = vI z :: st ∧ (pc : Int) + off = (tgt : Nat) ∧ (0 < z → K tgt L st M) ∧ (¬ 0 < z → K (pc + 3) L st M)
  | .ifCond .le off => len = 3 ∧ ∃ z st tgt, St = vI z :: st ∧ (pc : Int) + off = (tgt : Nat) ∧ (z ≤ 0 → K tgt L st M) ∧ (¬ z ≤ 0 → K (pc + 3) L st M)
  | .if_icmp .eq off => len = 3 ∧ ∃ a b st tgt, St = vI b :: vI a :: st ∧ (pc : Int) + off = (tgt : Nat) ∧ (a = b → K tgt L st M) ∧ (¬ a = b → K (pc + 3) L st M)
  | .if_icmp .ne off => len = 3 ∧ ∃ a b st tgt, St = vI b :: vI a :: st ∧ (pc : Int) + off = (tgt : Nat) ∧ (¬ a = b → K tgt L st M) ∧ (a = b → K (pc + 3) L st M)
  | .if_icmp .lt off => len = 3 ∧ ∃ a b st tgt, St = vI b :: vI a :: st ∧ (pc : Int) + off = (tgt : Nat) ∧ (a < b → K tgt L st M) ∧ (¬ a < b → K (pc + 3) L st M)
  | .if_icmp .ge off => len = 3 ∧ ∃ a b st tgt, St = vI b :: vI a :: st ∧ (pc : Int) + off = (tgt : Nat) ∧ (b ≤ a → K tgt L st M) ∧ (¬ b ≤ a → K (pc + 3) L st M)
  | .if_icmp .gt off => len = 3 ∧ ∃ a b st tgt, St = vI b :: vI a :: st ∧ (pc : Int) + off = (tgt : Nat) ∧ (b < a → K tgt L st M) ∧ (¬ b < a → K (pc + 3) L st M)
  | .if_icmp .le off => len = 3 ∧ ∃ a b st tgt, St = vI b :: vI a :: st ∧ (pc : Int) + off = (tgt : Nat) ∧ (a ≤ b → K tgt L st M) ∧ (¬ a ≤ b → K (pc + 3) L st M)
  | .goto off => len = 3 ∧ ∃ tgt, (pc : Int) + off = (tgt : Nat) ∧ K tgt L St M
  | .tableswitch dflt lo hi offs => ∃ z st, St = vI z :: st ∧ ((z < lo ∨ hi < z) → ∃ tgt, (pc : Int) + dflt = (tgt : Nat) ∧ K tgt L st M) ∧ (¬ (z < lo ∨ hi < z) → ∃ off tgt, offs[(z - lo).toNat]? = some off ∧ (pc : Int) + off = (tgt : Nat) ∧ K tgt L st M)
  | .getfield x => len = 3 ∧ ∃ k0 st ci ks j kd, St = vR k0 :: st ∧ ra_F (mY mi).cls x ci j ∧ SH[k0]? = some (.inr (ci, ks)) ∧ ks[j]? = some kd ∧ K (pc + 3) L (ra_fa kd (M k0 j) :: st) M
  | .putfield x => len = 3 ∧ ∃ z k0 st ci ks j kd, St = vI z :: vR k0 :: st ∧ ra_FP (mY mi).cls x ci j kd ∧ SH[k0]? = some (.inr (ci, ks)) ∧ ks[j]? = some kd ∧ (kd = 0 ∨ (kd = 1 ∧ (z = 0 ∨ z = 1))) ∧ K (pc + 3) L st (up M k0 j z)
  | .getstatic x => len = 3 ∧ ra_G (mY mi).cls x ∧ K (pc + 3) L (vR roP :: St) M
  | .iaload => len = 1 ∧ ∃ z k0 st, St = vI z :: vR k0 :: st ∧ ((∃ n, SH[k0]? = some (.inl n) ∧ 0 ≤ z ∧ z < (n : Nat) ∧ K (pc + 1) L (vI (M k0 z) :: st) M) ∨ (k0 = roP ∧ 0 ≤ z ∧ z < 5 ∧ K (pc + 1) L (vI (ra_fc z) :: st) M))
  | .iastore => len = 1 ∧ ∃ y z k0 st n, St = vI y :: vI z :: vR k0 :: st ∧ SH[k0]? = some (.inl n) ∧ 0 ≤ z ∧ z < (n : Nat) ∧ K (pc + 1) L st (up M k0 z y)
  | .arraylength => len = 1 ∧ ∃ k0 st, St = vR k0 :: st ∧ ((∃ n : Nat, SH[k0]? = some (.inl n) ∧ K (pc + 1) L (vI n :: st) M) ∨ (k0 = roP ∧ K (pc + 1) L (vI 5 :: st) M))
  | .invokevirtual x => len = 3 ∧ ∃ mj as k0 st ci ks T N, St = as.reverse ++ vR k0 :: st ∧ ra_CV (mY mi).cls x mj as.length ∧ SH[k0]? = some (.inr (ci, ks)) ∧ vwCl[ci]? = some ((mY mj).cls, T, N) ∧ st.length ≤ 4 ∧ C mj (vR k0 :: as) M (fun r M' => K (pc + 3) L (r.toList ++ st) M')
  | .invokestatic x => len = 3 ∧ ∃ mj as st, St = as.reverse ++ st ∧ ra_CS (mY mi).cls x mj as.length ∧ st.length ≤ 4 ∧ C mj as M (fun r M' => K (pc + 3) L (r.toList ++ st) M')
  | .ireturn => len = 1 ∧ ∃ z, St = [vI z] ∧ (mR mi = some .int ∨ (mR mi = some .boolean ∧ (z = 0 ∨ z = 1))) ∧ Q (some (vI z)) M
  | .lreturn => len = 1 ∧ ∃ z, St = [vJ z] ∧ mR mi = some .long ∧ Q (some (vJ z)) M
  | .return_ => len = 1 ∧ St = [] ∧ mR mi = none ∧ Q none M
  | _ => False
/-- fewer locals are known -/
def ra_weak : ra_L → ra_L → Prop
  | [], [] => True
  | a :: l, b :: l2 => (b = a ∨ b = none) ∧ ra_weak l l2
  | _, _ => False
def ra_Clo (C : Nat → List ra_V → ra_M → (Option ra_V → ra_M → Prop) → Prop) (mi : Nat) (b : ByteArray) (Q : Option ra_V → ra_M → Prop) (K : Nat → ra_L → List ra_V → ra_M → Prop) : Prop :=
  (∀ (pc : Nat) (L : ra_L) (St : List ra_V) (M : ra_M) (i : Instr) (len : Nat), decode b pc = .ok (i, len) → ra_stp C mi Q K pc L St M i len → K pc L St M) ∧ ∀ (pc : Nat) (L L2 : ra_L) (St : List ra_V) (M : ra_M), ra_weak L L2 → K pc L2 St M → K pc L St M
def ra_ExF (C : Nat → List ra_V → ra_M → (Option ra_V → ra_M → Prop) → Prop) (mi : Nat) (args : List ra_V) (M : ra_M) (Q : Option ra_V → ra_M → Prop) : Prop :=
  (ra_sl args).length ≤ mX mi ∧ ∀ K : Nat → ra_L → List ra_V → ra_M → Prop, ra_Clo C mi (mB mi) Q K → K 0 (ra_ini mi args) [] M
/-- the method mi, called with these values, ends with Q, in at most d frames more -/
def Ex : Nat → Nat → List ra_V → ra_M → (Option ra_V → ra_M → Prop) → Prop
  | 0 => ra_ExF (fun _ _ _ _ => False)
  | d + 1 => ra_ExF (Ex d)
/-! what it stands for -/
def ra_cv (ad : Nat → Nat) : ra_V → Value
  | .inl z => .int (Int32.ofInt z)
  | .inr (.inl z) => .long (Int64.ofInt z)
  | .inr (.inr k) => .ref (ad k)
def ra_okV : ra_V → Prop
  | .inl z => in32 z
  | .inr (.inl z) => in64 z
  | .inr (.inr _) => True
def ra_okL (L : ra_L) : Prop := ∀ (i : Nat) (v : ra_V), L[i]? = some (some v) → ra_okV v
def ra_okS (St : List ra_V) : Prop := ∀ v ∈ St, ra_okV v
def ra_okM (M : ra_M) : Prop := ∀ (k : Nat) (j : Int), in32 (M k j)
def ra_fv (ad : Nat → Nat) (kd : Nat) (z : Int) : Value := ra_cv ad (ra_fa kd z)
def ra_cel (cA : ClassId) (ad : Nat → Nat) (sh : Nat ⊕ (Nat × List Nat)) (f : Int → Int) : va_E := match sh with
  | .inl n => .inl (cA, n, .inl (fun i => Int32.ofInt (f (i : Nat))))
  | .inr q => .inr (q.1, (List.range q.2.length).map (fun j => ra_fv ad (q.2.getD j 0) (f (j : Nat))))
def ra_w (cA : ClassId) (ad : Nat → Nat) (M : ra_M) : va_W := (List.range SH.length).map (fun k => (ad k, ra_cel cA ad (SH.getD k (.inl 0)) (M k)))
theorem ra_w_len (cA : ClassId) (ad : Nat → Nat) (M : ra_M) : (ra_w cA ad M).length = SH.length := by simp [ra_w]
theorem ra_w_get {cA : ClassId} {ad : Nat → Nat} {M : ra_M} {k : Nat} {sh : Nat ⊕ (Nat × List Nat)} (h : SH[k]? = some sh) : (ra_w cA ad M)[k]? = some (ad k, ra_cel cA ad sh (M k)) := by
  have hk : k < SH.length := (List.getElem?_eq_some_iff.mp h).1
  simp [ra_w, List.getElem?_map, List.getElem?_range hk, h]
theorem ra_w_none {cA : ClassId} {ad : Nat → Nat} {M : ra_M} {k : Nat} {q : Nat × va_E} (h : (ra_w cA ad M)[k]? = some q) : k < SH.length ∧ q.1 = ad k := by
  have hk : k < SH.length := by
    have := (List.getElem?_eq_some_iff.mp h).1
    rwa [ra_w_len] at this
  refine ⟨hk, ?_⟩
  simp [ra_w, List.getElem?_map, List.getElem?_range hk] at h
  rw [← h]
theorem ra_w_set {cA : ClassId} {ad : Nat → Nat} {M : ra_M} {k : Nat} {sh : Nat ⊕ (Nat × List Nat)} {j z : Int} (h : SH[k]? = some sh) {e : va_E} (he : e = ra_cel cA ad sh (up M k j z k)) : (ra_w cA ad M).set k (ad k, e) = ra_w cA ad (up M k j z) := by
  have hk : k < SH.length := (List.getElem?_eq_some_iff.mp h).1
  apply List.ext_getElem?
  intro i
  by_cases hi : i = k
  · subst hi
    rw [List.getElem?_set_self (by rw [ra_w_len]; exact hk), ra_w_get h, he]
  · rw [List.getElem?_set_ne (fun q => hi q.symm)]
    by_cases hl : i < SH.length
    · have h2 : SH[i]? = some SH[i] := List.getElem?_eq_getElem hl
      rw [ra_w_get h2, ra_w_get h2]
      have : up M k j z i = M i := by funext x; simp [up, hi]
      rw [this]
    · rw [List.getElem?_eq_none (by rw [ra_w_len]; omega), List.getElem?_eq_none (by rw [ra_w_len]; omega)]
theorem ra_D_any {A : Nat → Prop} {cA : ClassId} {ad : Nat → Nat} {M M' : ra_M} (h : va_D A (ra_w cA ad M)) : va_D A (ra_w cA ad M') := by
  have key : ∀ (k : Nat) (q : Nat × va_E), (ra_w cA ad M')[k]? = some q → ∃ q0, (ra_w cA ad M)[k]? = some q0 ∧ q0.1 = q.1 := by
    intro k q hq
    obtain ⟨h1, h2⟩ := ra_w_none hq
    exact ⟨_, ra_w_get (List.getElem?_eq_getElem h1), h2.symm⟩
  refine ⟨fun i j p q hp hq hpq => ?_, fun k q hq => ?_⟩
  · obtain ⟨p0, a1, a2⟩ := key i p hp
    obtain ⟨q0, b1, b2⟩ := key j q hq
    exact h.1 i j p0 q0 a1 b1 (by rw [a2, b2, hpq])
  · obtain ⟨q0, b1, b2⟩ := key k q hq
    rw [← b2]
    exact h.2 k q0 b1
theorem ra_A_any {cA : ClassId} {ad : Nat → Nat} {M M' : ra_M} {sz sz' : Nat} (hs : sz' ≤ sz) {q : Nat} (h : va_A (ra_w cA ad M) sz q) : va_A (ra_w cA ad M') sz' q := by
  rcases h with ⟨k, e, h⟩ | h
  · obtain ⟨h1, h2⟩ := ra_w_none h
    refine Or.inl ⟨k, ra_cel cA ad (SH[k]) (M' k), ?_⟩
    have h3 : q = ad k := h2
    rw [h3]
    exact ra_w_get (List.getElem?_eq_getElem h1)
  · exact Or.inr (Nat.le_trans hs h)
theorem ra_okM_up {M : ra_M} (h : ra_okM M) (k : Nat) (j : Int) {z : Int} (hz : in32 z) : ra_okM (up M k j z) := by
  intro k' j'
  unfold up
  split
  · exact hz
  · exact h k' j'
/-! numbers -/
theorem ra_ti {z : Int} (h : in32 z) : (Int32.ofInt z).toInt = z := Int32.toInt_ofInt_of_le (by have := h.1; omega) (by have := h.2; omega)
theorem ra_tj {z : Int} (h : in64 z) : (Int64.ofInt z).toInt = z := Int64.toInt_ofInt_of_le (by have := h.1; omega) (by have := h.2; omega)
theorem ra_eq {a b : Int} (ha : in32 a) (hb : in32 b) : Int32.ofInt a = Int32.ofInt b ↔ a = b := by
  rw [← Int32.toInt_inj, ra_ti ha, ra_ti hb]
theorem ra_lt {a b : Int} (ha : in32 a) (hb : in32 b) : Int32.ofInt a < Int32.ofInt b ↔ a < b := by
  rw [Int32.lt_iff_toInt_lt, ra_ti ha, ra_ti hb]
theorem ra_le {a b : Int} (ha : in32 a) (hb : in32 b) : Int32.ofInt a ≤ Int32.ofInt b ↔ a ≤ b := by
  rw [Int32.le_iff_toInt_le, ra_ti ha, ra_ti hb]
theorem ra_in0 : in32 0 := by unfold in32; omega
theorem ra_eq0 {a : Int} (ha : in32 a) : Int32.ofInt a = 0 ↔ a = 0 := ra_eq ha ra_in0
theorem ra_lt0 {a : Int} (ha : in32 a) : Int32.ofInt a < 0 ↔ a < 0 := ra_lt ha ra_in0
theorem ra_le0 {a : Int} (ha : in32 a) : Int32.ofInt a ≤ 0 ↔ a ≤ 0 := ra_le ha ra_in0
theorem ra_0lt {a : Int} (ha : in32 a) : 0 < Int32.ofInt a ↔ 0 < a := ra_lt ra_in0 ha
theorem ra_0le {a : Int} (ha : in32 a) : 0 ≤ Int32.ofInt a ↔ 0 ≤ a := ra_le ra_in0 ha
theorem ra_cl {z : Int} (h : in32 z) (h0 : 0 ≤ z) : (((Int32.ofInt z).toNatClampNeg : Nat) : Int) = z := by
  rw [Int32.toNatClampNeg_ofInt_of_le (by have := h.1; omega) (by have := h.2; omega)]
  omega
theorem ra_vin {z : Int} {n : Nat} (h : in32 z) (h0 : 0 ≤ z) (hn : z < n) : vp_in (Int32.ofInt z) n := by
  rw [vp_in_iff, ra_ti h]
  exact ⟨h0, hn⟩
theorem ra_b8 {n : Int} (h : -128 ≤ n ∧ n ≤ 127) : (Int8.ofInt n).toInt32 = Int32.ofInt n := by
  apply Int32.toInt_inj.mp
  rw [Int8.toInt_toInt32, Int8.toInt_ofInt_of_le (by have := h.1; omega) (by have := h.2; omega), ra_ti ⟨by omega, by omega⟩]
theorem ra_b16 {n : Int} (h : -32768 ≤ n ∧ n ≤ 32767) : (Int16.ofInt n).toInt32 = Int32.ofInt n := by
  apply Int32.toInt_inj.mp
  rw [Int16.toInt_toInt32, Int16.toInt_ofInt_of_le (by have := h.1; omega) (by have := h.2; omega), ra_ti ⟨by omega, by omega⟩]
theorem ra_div {a b : Int} (ha : in32 a) (hb : in32 b) (h : in32 (a.tdiv b)) : Int32.ofInt a / Int32.ofInt b = Int32.ofInt (a.tdiv b) := by
  apply Int32.toInt_inj.mp
  rw [Int32.toInt_div, ra_ti ha, ra_ti hb, ra_ti h]
  exact Int.bmod_eq_of_le (by have := h.1; omega) (by have := h.2; omega)
theorem ra_divJ {a b : Int} (ha : in64 a) (hb : in64 b) (h : in64 (a.tdiv b)) : Int64.ofInt a / Int64.ofInt b = Int64.ofInt (a.tdiv b) := by
  apply Int64.toInt_inj.mp
  rw [Int64.toInt_div, ra_tj ha, ra_tj hb, ra_tj h]
  exact Int.bmod_eq_of_le (by have := h.1; omega) (by have := h.2; omega)
theorem ra_rem {a b : Int} (ha : in32 a) (hb : in32 b) (h : in32 (a.tmod b)) : Int32.ofInt a - Int32.ofInt a / Int32.ofInt b * Int32.ofInt b = Int32.ofInt (a.tmod b) := by
  apply Int32.toInt_inj.mp
  rw [ra_ti h, Int32.toInt_sub, Int32.toInt_mul, Int32.toInt_div, ra_ti ha, ra_ti hb]
  have e : a.tmod b = a - a.tdiv b * b := by rw [Int.tmod_def, Int.mul_comm]
  have e2 : (a - (((a.tdiv b).bmod (2 ^ 32)) * b).bmod (2 ^ 32)).bmod (2 ^ 32) = (a - a.tdiv b * b).bmod (2 ^ 32) := by
    simp [Int.sub_bmod_bmod, Int.bmod_mul_bmod]
  rw [e2, ← e]
  exact Int.bmod_eq_of_le (by have := h.1; omega) (by have := h.2; omega)
theorem ra_of_nat (n : Nat) : Int32.ofInt (n : Int) = nI n := Int32.ofInt_eq_ofNat
theorem ra_cmpJ {a b : Int} (ha : in64 a) (hb : in64 b) : lg_cmp (Int64.ofInt a) (Int64.ofInt b) = Int32.ofInt (if b < a then 1 else if a = b then 0 else -1) := by
  unfold lg_cmp
  have h1 : (Int64.ofInt a > Int64.ofInt b) ↔ b < a := by
    rw [gt_iff_lt, Int64.lt_iff_toInt_lt, ra_tj ha, ra_tj hb]
  have h2 : (Int64.ofInt a = Int64.ofInt b) ↔ a = b := by rw [← Int64.toInt_inj, ra_tj ha, ra_tj hb]
  by_cases c1 : b < a
  · rw [if_pos (h1.mpr c1), if_pos c1]; rfl
  · rw [if_neg (fun q => c1 (h1.mp q)), if_neg c1]
    by_cases c2 : a = b
    · rw [if_pos (h2.mpr c2), if_pos c2]; rfl
    · rw [if_neg (fun q => c2 (h2.mp q)), if_neg c2]; rfl
theorem ra_xor {a b : Int} (ha : in64 a) (hb : in64 b) : ∃ z, in64 z ∧ (z < 0 ↔ ¬ (a < 0 ↔ b < 0)) ∧ Int64.ofInt a ^^^ Int64.ofInt b = Int64.ofInt z := by
  refine ⟨(Int64.ofInt a ^^^ Int64.ofInt b).toInt, ⟨?_, ?_⟩, ?_, by rw [Int64.ofInt_toInt]⟩
  · have := Int64.le_toInt (Int64.ofInt a ^^^ Int64.ofInt b); omega
  · have := Int64.toInt_lt (Int64.ofInt a ^^^ Int64.ofInt b); omega
  · have h1 : ∀ x : Int64, x.toInt < 0 ↔ x.toBitVec.msb = true := fun x => by
      rw [← Int64.toInt_toBitVec, BitVec.msb_eq_toInt]; simp
    rw [h1, Int64.toBitVec_xor, BitVec.msb_xor]
    have ea : (Int64.ofInt a).toBitVec.msb = true ↔ a < 0 := by rw [← h1, ra_tj ha]
    have eb : (Int64.ofInt b).toBitVec.msb = true ↔ b < 0 := by rw [← h1, ra_tj hb]
    rw [← ea, ← eb]
    cases (Int64.ofInt a).toBitVec.msb <;> cases (Int64.ofInt b).toBitVec.msb <;> simp
