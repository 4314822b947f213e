/-! the rules by which the abstract machine is walked, one an instruction -/
theorem Ex_mono : ∀ (d mi : Nat) (as : List ra_V) (M : ra_M) {P Q : Option ra_V → ra_M → Prop}, Ex d mi as M P → (∀ r M, P r M → Q r M) → Ex d mi as M Q := by
  have key : ∀ (C : Nat → List ra_V → ra_M → (Option ra_V → ra_M → Prop) → Prop) (mi : Nat) (as : List ra_V) (M : ra_M) {P Q : Option ra_V → ra_M → Prop}, ra_ExF C mi as M P → (∀ r M, P r M → Q r M) → ra_ExF C mi as M Q := by
    intro C mi as M P Q h hPQ
    refine ⟨h.1, fun K hK => h.2 K ⟨fun pc L St M i len hd hs => hK.1 pc L St M i len hd ?_, hK.2⟩⟩
    unfold ra_stp at hs ⊢
    split at hs
    case h_60 => obtain ⟨h1, z, h2, h3, h4⟩ := hs; exact ⟨h1, z, h2, h3, hPQ _ _ h4⟩
    case h_61 => obtain ⟨h1, z, h2, h3, h4⟩ := hs; exact ⟨h1, z, h2, h3, hPQ _ _ h4⟩
    case h_62 => obtain ⟨h1, h2, h3, h4⟩ := hs; exact ⟨h1, h2, h3, hPQ _ _ h4⟩
    all_goals exact hs
  intro d mi as M P Q h hPQ
  cases d with
  | zero => exact key _ _ _ _ h hPQ
  | succ d => exact key _ _ _ _ h hPQ
theorem Ex_leaf {d mi : Nat} {as : List ra_V} {M : ra_M} {Q : Option ra_V → ra_M → Prop} (h1 : (ra_sl as).length ≤ mX mi) (h2 : ∀ (C : Nat → List ra_V → ra_M → (Option ra_V → ra_M → Prop) → Prop) (K : Nat → ra_L → List ra_V → ra_M → Prop), ra_Clo C mi (mB mi) Q K → K 0 (ra_ini mi as) [] M) : Ex d mi as M Q := by
  cases d with
  | zero => exact ⟨h1, fun K hK => h2 _ K hK⟩
  | succ d => exact ⟨h1, fun K hK => h2 _ K hK⟩
theorem Ex_call {d mi : Nat} {as : List ra_V} {M : ra_M} {Q : Option ra_V → ra_M → Prop} (h1 : (ra_sl as).length ≤ mX mi) (h2 : ∀ (K : Nat → ra_L → List ra_V → ra_M → Prop), ra_Clo (Ex d) mi (mB mi) Q K → K 0 (ra_ini mi as) [] M) : Ex (d + 1) mi as M Q := ⟨h1, fun K hK => h2 K hK⟩
section KR
variable {C : Nat → List ra_V → ra_M → (Option ra_V → ra_M → Prop) → Prop} {mi d : Nat} {b : ByteArray} {Q : Option ra_V → ra_M → Prop} {K : Nat → ra_L → List ra_V → ra_M → Prop} {pc q : Nat} {L L2 : ra_L} {St st : List ra_V} {M M2 : ra_M}
theorem k_weak (hK : ra_Clo C mi b Q K) (h : ra_weak L L2) (k : K pc L2 St M) : K pc L St M := hK.2 pc L L2 St M h k
theorem k_ic (hK : ra_Clo C mi b Q K) {n : Int} (hd : decode b pc = .ok (.iconst n, 1)) (hp : pc + 1 = q) (h : -2147483648 ≤ n ∧ n ≤ 2147483647) (k : K q L (vI n :: St) M) : K pc L (St) M := by
  subst hp
  exact hK.1 _ _ _ _ _ _ hd ⟨rfl, h, k⟩
theorem k_bp (hK : ra_Clo C mi b Q K) {n : Int} (hd : decode b pc = .ok (.bipush n, 2)) (hp : pc + 2 = q) (h : -128 ≤ n ∧ n ≤ 127) (k : K q L (vI n :: St) M) : K pc L (St) M := by
  subst hp
  exact hK.1 _ _ _ _ _ _ hd ⟨rfl, h, k⟩
theorem k_sp (hK : ra_Clo C mi b Q K) {n : Int} (hd : decode b pc = .ok (.sipush n, 3)) (hp : pc + 3 = q) (h : -32768 ≤ n ∧ n ≤ 32767) (k : K q L (vI n :: St) M) : K pc L (St) M := by
  subst hp
  exact hK.1 _ _ _ _ _ _ hd ⟨rfl, h, k⟩
theorem k_lc (hK : ra_Clo C mi b Q K) {n : Fin 2} {z : Int} (hd : decode b pc = .ok (.lconst n, 1)) (hp : pc + 1 = q) (h : ((n : Nat) : Int) = z) (k : K q L (vJ z :: St) M) : K pc L (St) M := by
  subst hp
  exact hK.1 _ _ _ _ _ _ hd ⟨rfl, by rw [h]; exact k⟩
theorem k_ldc (hK : ra_Clo C mi b Q K) {x : Nat} {z : Int} (hd : decode b pc = .ok (.ldc x, 2)) (hp : pc + 2 = q) (h : ra_C (mY mi).cls x z) (k : K q L (vI z :: St) M) : K pc L (St) M := by
  subst hp
  exact hK.1 _ _ _ _ _ _ hd ⟨rfl, z, h, k⟩
theorem k_ldc2 (hK : ra_Clo C mi b Q K) {x : Nat} {z : Int} (hd : decode b pc = .ok (.ldc2_w x, 3)) (hp : pc + 3 = q) (h : ra_CJ (mY mi).cls x z) (k : K q L (vJ z :: St) M) : K pc L (St) M := by
  subst hp
  exact hK.1 _ _ _ _ _ _ hd ⟨rfl, z, h, k⟩
theorem k_iln (hK : ra_Clo C mi b Q K) {x : Fin 4} {z : Int} (hd : decode b pc = .ok (.iload_n x, 1)) (hp : pc + 1 = q) (h : L[(x : Nat)]? = some (some (vI z))) (k : K q L (vI z :: St) M) : K pc L (St) M := by
  subst hp
  exact hK.1 _ _ _ _ _ _ hd ⟨rfl, z, h, k⟩
theorem k_il (hK : ra_Clo C mi b Q K) {x : Nat} {z : Int} (hd : decode b pc = .ok (.iload x, 2)) (hp : pc + 2 = q) (h : L[x]? = some (some (vI z))) (k : K q L (vI z :: St) M) : K pc L (St) M := by
  subst hp
  exact hK.1 _ _ _ _ _ _ hd ⟨rfl, z, h, k⟩
theorem k_lln (hK : ra_Clo C mi b Q K) {x : Fin 4} {z : Int} (hd : decode b pc = .ok (.lload_n x, 1)) (hp : pc + 1 = q) (h : L[(x : Nat)]? = some (some (vJ z))) (k : K q L (vJ z :: St) M) : K pc L (St) M := by
  subst hp
  exact hK.1 _ _ _ _ _ _ hd ⟨rfl, z, h, k⟩
theorem k_ll (hK : ra_Clo C mi b Q K) {x : Nat} {z : Int} (hd : decode b pc = .ok (.lload x, 2)) (hp : pc + 2 = q) (h : L[x]? = some (some (vJ z))) (k : K q L (vJ z :: St) M) : K pc L (St) M := by
  subst hp
  exact hK.1 _ _ _ _ _ _ hd ⟨rfl, z, h, k⟩
theorem k_aln (hK : ra_Clo C mi b Q K) {x : Fin 4} {z : Nat} (hd : decode b pc = .ok (.aload_n x, 1)) (hp : pc + 1 = q) (h : L[(x : Nat)]? = some (some (vR z))) (k : K q L (vR z :: St) M) : K pc L (St) M := by
  subst hp
  exact hK.1 _ _ _ _ _ _ hd ⟨rfl, z, h, k⟩
theorem k_al (hK : ra_Clo C mi b Q K) {x : Nat} {z : Nat} (hd : decode b pc = .ok (.aload x, 2)) (hp : pc + 2 = q) (h : L[x]? = some (some (vR z))) (k : K q L (vR z :: St) M) : K pc L (St) M := by
  subst hp
  exact hK.1 _ _ _ _ _ _ hd ⟨rfl, z, h, k⟩
theorem k_isn (hK : ra_Clo C mi b Q K) {x : Fin 4} {z : Int} (hd : decode b pc = .ok (.istore_n x, 1)) (hp : pc + 1 = q) (h : (x : Nat) < L.length) (hL : ra_st L x (vI z) = L2) (k : K q L2 st M) : K pc L (vI z :: st) M := by
  subst hp
  exact hK.1 _ _ _ _ _ _ hd ⟨rfl, z, st, rfl, h, by rw [hL]; exact k⟩
theorem k_is (hK : ra_Clo C mi b Q K) {x : Nat} {z : Int} (hd : decode b pc = .ok (.istore x, 2)) (hp : pc + 2 = q) (h : x < L.length) (hL : ra_st L x (vI z) = L2) (k : K q L2 st M) : K pc L (vI z :: st) M := by
  subst hp
  exact hK.1 _ _ _ _ _ _ hd ⟨rfl, z, st, rfl, h, by rw [hL]; exact k⟩
theorem k_lsn (hK : ra_Clo C mi b Q K) {x : Fin 4} {z : Int} (hd : decode b pc = .ok (.lstore_n x, 1)) (hp : pc + 1 = q) (h : (x : Nat) + 1 < L.length) (hL : ra_st2 L x (vJ z) = L2) (k : K q L2 st M) : K pc L (vJ z :: st) M := by
  subst hp
  exact hK.1 _ _ _ _ _ _ hd ⟨rfl, z, st, rfl, h, by rw [hL]; exact k⟩
theorem k_ls (hK : ra_Clo C mi b Q K) {x : Nat} {z : Int} (hd : decode b pc = .ok (.lstore x, 2)) (hp : pc + 2 = q) (h : x + 1 < L.length) (hL : ra_st2 L x (vJ z) = L2) (k : K q L2 st M) : K pc L (vJ z :: st) M := by
  subst hp
  exact hK.1 _ _ _ _ _ _ hd ⟨rfl, z, st, rfl, h, by rw [hL]; exact k⟩
theorem k_inc (hK : ra_Clo C mi b Q K) {x : Nat} {n z y : Int} (hd : decode b pc = .ok (.iinc x n, 3)) (hp : pc + 3 = q) (h : L[x]? = some (some (vI z))) (hy : z + n = y) (h2 : -2147483648 ≤ y ∧ y ≤ 2147483647) (hL : ra_st L x (vI y) = L2) (k : K q L2 St M) : K pc L (St) M := by
  subst hp
  exact hK.1 _ _ _ _ _ _ hd ⟨rfl, z, h, by rw [hy]; exact h2, by rw [hy, hL]; exact k⟩
theorem k_add (hK : ra_Clo C mi b Q K) {x y z : Int} (hd : decode b pc = .ok (.iadd, 1)) (hp : pc + 1 = q) (hz : x + y = z) (h : -2147483648 ≤ z ∧ z ≤ 2147483647) (k : K q L (vI z :: st) M) : K pc L (vI y :: vI x :: st) M := by
  subst hp
  exact hK.1 _ _ _ _ _ _ hd ⟨rfl, x, y, st, rfl, by rw [hz]; exact h, by rw [hz]; exact k⟩
theorem k_sub (hK : ra_Clo C mi b Q K) {x y z : Int} (hd : decode b pc = .ok (.isub, 1)) (hp : pc + 1 = q) (hz : x - y = z) (h : -2147483648 ≤ z ∧ z ≤ 2147483647) (k : K q L (vI z :: st) M) : K pc L (vI y :: vI x :: st) M := by
  subst hp
  exact hK.1 _ _ _ _ _ _ hd ⟨rfl, x, y, st, rfl, by rw [hz]; exact h, by rw [hz]; exact k⟩
theorem k_mul (hK : ra_Clo C mi b Q K) {x y z : Int} (hd : decode b pc = .ok (.imul, 1)) (hp : pc + 1 = q) (hz : x * y = z) (h : -2147483648 ≤ z ∧ z ≤ 2147483647) (k : K q L (vI z :: st) M) : K pc L (vI y :: vI x :: st) M := by
  subst hp
  exact hK.1 _ _ _ _ _ _ hd ⟨rfl, x, y, st, rfl, by rw [hz]; exact h, by rw [hz]; exact k⟩
theorem k_ladd (hK : ra_Clo C mi b Q K) {x y z : Int} (hd : decode b pc = .ok (.ladd, 1)) (hp : pc + 1 = q) (hz : x + y = z) (h : -9223372036854775808 ≤ z ∧ z ≤ 9223372036854775807) (k : K q L (vJ z :: st) M) : K pc L (vJ y :: vJ x :: st) M := by
  subst hp
  exact hK.1 _ _ _ _ _ _ hd ⟨rfl, x, y, st, rfl, by rw [hz]; exact h, by rw [hz]; exact k⟩
theorem k_lsub (hK : ra_Clo C mi b Q K) {x y z : Int} (hd : decode b pc = .ok (.lsub, 1)) (hp : pc + 1 = q) (hz : x - y = z) (h : -9223372036854775808 ≤ z ∧ z ≤ 9223372036854775807) (k : K q L (vJ z :: st) M) : K pc L (vJ y :: vJ x :: st) M := by
  subst hp
  exact hK.1 _ _ _ _ _ _ hd ⟨rfl, x, y, st, rfl, by rw [hz]; exact h, by rw [hz]; exact k⟩
theorem k_lmul (hK : ra_Clo C mi b Q K) {x y z : Int} (hd : decode b pc = .ok (.lmul, 1)) (hp : pc + 1 = q) (hz : x * y = z) (h : -9223372036854775808 ≤ z ∧ z ≤ 9223372036854775807) (k : K q L (vJ z :: st) M) : K pc L (vJ y :: vJ x :: st) M := by
  subst hp
  exact hK.1 _ _ _ _ _ _ hd ⟨rfl, x, y, st, rfl, by rw [hz]; exact h, by rw [hz]; exact k⟩
theorem k_neg (hK : ra_Clo C mi b Q K) {x z : Int} (hd : decode b pc = .ok (.ineg, 1)) (hp : pc + 1 = q) (hz : -x = z) (h : -2147483648 ≤ z ∧ z ≤ 2147483647) (k : K q L (vI z :: st) M) : K pc L (vI x :: st) M := by
  subst hp
  exact hK.1 _ _ _ _ _ _ hd ⟨rfl, x, st, rfl, by rw [hz]; exact h, by rw [hz]; exact k⟩
theorem k_div (hK : ra_Clo C mi b Q K) {x y z : Int} (hd : decode b pc = .ok (.idiv, 1)) (hp : pc + 1 = q) (h0 : y ≠ 0) (hz : x.tdiv y = z) (h : -2147483648 ≤ z ∧ z ≤ 2147483647) (k : K q L (vI z :: st) M) : K pc L (vI y :: vI x :: st) M := by
  subst hp
  exact hK.1 _ _ _ _ _ _ hd ⟨rfl, x, y, st, rfl, h0, by rw [hz]; exact h, by rw [hz]; exact k⟩
theorem k_rem (hK : ra_Clo C mi b Q K) {x y z : Int} (hd : decode b pc = .ok (.irem, 1)) (hp : pc + 1 = q) (h0 : y ≠ 0) (hz : x.tmod y = z) (h : -2147483648 ≤ z ∧ z ≤ 2147483647) (k : K q L (vI z :: st) M) : K pc L (vI y :: vI x :: st) M := by
  subst hp
  exact hK.1 _ _ _ _ _ _ hd ⟨rfl, x, y, st, rfl, h0, by rw [hz]; exact h, by rw [hz]; exact k⟩
theorem k_ldiv (hK : ra_Clo C mi b Q K) {x y z : Int} (hd : decode b pc = .ok (.ldiv, 1)) (hp : pc + 1 = q) (h0 : y ≠ 0) (hz : x.tdiv y = z) (h : -9223372036854775808 ≤ z ∧ z ≤ 9223372036854775807) (k : K q L (vJ z :: st) M) : K pc L (vJ y :: vJ x :: st) M := by
  subst hp
  exact hK.1 _ _ _ _ _ _ hd ⟨rfl, x, y, st, rfl, h0, by rw [hz]; exact h, by rw [hz]; exact k⟩
theorem k_and (hK : ra_Clo C mi b Q K) {x y z : Int} {m n : Nat} (hd : decode b pc = .ok (.iand, 1)) (hp : pc + 1 = q) (hx : x = m) (hy : y = n) (hz : z = ((m &&& n : Nat) : Int)) (k : K q L (vI z :: st) M) : K pc L (vI y :: vI x :: st) M := by
  subst hp
  exact hK.1 _ _ _ _ _ _ hd ⟨rfl, m, n, st, by rw [hx, hy], by rw [← hz]; exact k⟩
theorem k_or (hK : ra_Clo C mi b Q K) {x y z : Int} {m n : Nat} (hd : decode b pc = .ok (.ior, 1)) (hp : pc + 1 = q) (hx : x = m) (hy : y = n) (hz : z = ((m ||| n : Nat) : Int)) (k : K q L (vI z :: st) M) : K pc L (vI y :: vI x :: st) M := by
  subst hp
  exact hK.1 _ _ _ _ _ _ hd ⟨rfl, m, n, st, by rw [hx, hy], by rw [← hz]; exact k⟩
theorem k_shl (hK : ra_Clo C mi b Q K) {x y z : Int} {m n : Nat} (hd : decode b pc = .ok (.ishl, 1)) (hp : pc + 1 = q) (hx : x = m) (hy : y = n) (h1 : n < 31) (h2 : m * 2 ^ n < 2147483648) (hz : z = ((m * 2 ^ n : Nat) : Int)) (k : K q L (vI z :: st) M) : K pc L (vI y :: vI x :: st) M := by
  subst hp
  exact hK.1 _ _ _ _ _ _ hd ⟨rfl, m, n, st, by rw [hx, hy], h1, h2, by rw [← hz]; exact k⟩
theorem k_shr (hK : ra_Clo C mi b Q K) {x y z : Int} {m n : Nat} (hd : decode b pc = .ok (.ishr, 1)) (hp : pc + 1 = q) (hx : x = m) (hy : y = n) (h1 : n < 31) (hz : z = ((m / 2 ^ n : Nat) : Int)) (k : K q L (vI z :: st) M) : K pc L (vI y :: vI x :: st) M := by
  subst hp
  exact hK.1 _ _ _ _ _ _ hd ⟨rfl, m, n, st, by rw [hx, hy], h1, by rw [← hz]; exact k⟩
theorem k_i2l (hK : ra_Clo C mi b Q K) {x : Int} (hd : decode b pc = .ok (.i2l, 1)) (hp : pc + 1 = q) (k : K q L (vJ x :: st) M) : K pc L (vI x :: st) M := by
  subst hp
  exact hK.1 _ _ _ _ _ _ hd ⟨rfl, x, st, rfl, k⟩
theorem k_lxor (hK : ra_Clo C mi b Q K) {x y : Int} (hd : decode b pc = .ok (.lxor, 1)) (hp : pc + 1 = q) (k : ∀ z, in64 z → (z < 0 ↔ ¬ (x < 0 ↔ y < 0)) → K q L (vJ z :: st) M) : K pc L (vJ y :: vJ x :: st) M := by
  subst hp
  exact hK.1 _ _ _ _ _ _ hd ⟨rfl, x, y, st, rfl, k⟩
theorem k_lcmp (hK : ra_Clo C mi b Q K) {x y : Int} (hd : decode b pc = .ok (.lcmp, 1)) (hp : pc + 1 = q) (k : K q L (vI (if y < x then 1 else if x = y then 0 else -1) :: st) M) : K pc L (vJ y :: vJ x :: st) M := by
  subst hp
  exact hK.1 _ _ _ _ _ _ hd ⟨rfl, x, y, st, rfl, k⟩
theorem k_dup (hK : ra_Clo C mi b Q K) {v : ra_V} (hd : decode b pc = .ok (.dup, 1)) (hp : pc + 1 = q) (h : ra_lng (some (some v)) = false) (k : K q L (v :: v :: st) M) : K pc L (v :: st) M := by
  subst hp
  exact hK.1 _ _ _ _ _ _ hd ⟨rfl, v, st, rfl, h, k⟩
theorem k_dup2 (hK : ra_Clo C mi b Q K) {v w : ra_V} (hd : decode b pc = .ok (.dup2, 1)) (hp : pc + 1 = q) (h : ra_lng (some (some v)) = false) (h2 : ra_lng (some (some w)) = false) (k : K q L (v :: w :: v :: w :: st) M) : K pc L (v :: w :: st) M := by
  subst hp
  exact hK.1 _ _ _ _ _ _ hd ⟨rfl, v, w, st, rfl, h, h2, k⟩
theorem k_pop (hK : ra_Clo C mi b Q K) {v : ra_V} (hd : decode b pc = .ok (.pop, 1)) (hp : pc + 1 = q) (h : ra_lng (some (some v)) = false) (k : K q L st M) : K pc L (v :: st) M := by
  subst hp
  exact hK.1 _ _ _ _ _ _ hd ⟨rfl, v, st, rfl, h, k⟩
theorem k_ifeq (hK : ra_Clo C mi b Q K) {z off : Int} {t : Nat} (hd : decode b pc = .ok (.ifCond .eq off, 3)) (hp : pc + 3 = q) (ht : (pc : Int) + off = (t : Nat)) (k1 : z = 0 → K t L st M) (k2 : ¬ z = 0 → K q L st M) : K pc L (vI z :: st) M := by
  subst hp
  exact hK.1 _ _ _ _ _ _ hd ⟨rfl, z, st, t, rfl, ht, k1, k2⟩
theorem k_ifne (hK : ra_Clo C mi b Q K) {z off : Int} {t : Nat} (hd : decode b pc = .ok (.ifCond .ne off, 3)) (hp : pc + 3 = q) (ht : (pc : Int) + off = (t : Nat)) (k1 : ¬ z = 0 → K t L st M) (k2 : z = 0 → K q L st M) : K pc L (vI z :: st) M := by
  subst hp
  exact hK.1 _ _ _ _ _ _ hd ⟨rfl, z, st, t, rfl, ht, k1, k2⟩
theorem k_iflt (hK : ra_Clo C mi b Q K) {z off : Int} {t : Nat} (hd : decode b pc = .ok (.ifCond .lt off, 3)) (hp : pc + 3 = q) (ht : (pc : Int) + off = (t : Nat)) (k1 : z < 0 → K t L st M) (k2 : ¬ z < 0 → K q L st M) : K pc L (vI z :: st) M := by
  subst hp
  exact hK.1 _ _ _ _ _ _ hd ⟨rfl, z, st, t, rfl, ht, k1, k2⟩
theorem k_ifge (hK : ra_Clo C mi b Q K) {z off : Int} {t : Nat} (hd : decode b pc = .ok (.ifCond .ge off, 3)) (hp : pc + 3 = q) (ht : (pc : Int) + off = (t : Nat)) (k1 : 0 ≤ z → K t L st M) (k2 : ¬ 0 ≤ z → K q L st M) : K pc L (vI z :: st) M := by
  subst hp
  exact hK.1 _ _ _ _ _ _ hd ⟨rfl, z, st, t, rfl, ht, k1, k2⟩
theorem k_ifgt (hK : ra_Clo C mi b Q K) {z off : Int} {t : Nat} (hd : decode b pc = .ok (.ifCond .gt off, 3)) (hp : pc + 3 = q) (ht : (pc : Int) + off = (t : Nat)) (k1 : 0 < z → K t L st M) (k2 : ¬ 0 < z → K q L st M) : K pc L (vI z :: st) M := by
  subst hp
  exact hK.1 _ _ _ _ _ _ hd ⟨rfl, z, st, t, rfl, ht, k1, k2⟩
theorem k_ifle (hK : ra_Clo C mi b Q K) {z off : Int} {t : Nat} (hd : decode b pc = .ok (.ifCond .le off, 3)) (hp : pc + 3 = q) (ht : (pc : Int) + off = (t : Nat)) (k1 : z ≤ 0 → K t L st M) (k2 : ¬ z ≤ 0 → K q L st M) : K pc L (vI z :: st) M := by
  subst hp
  exact hK.1 _ _ _ _ _ _ hd ⟨rfl, z, st, t, rfl, ht, k1, k2⟩
theorem k_ceq (hK : ra_Clo C mi b Q K) {x y off : Int} {t : Nat} (hd : decode b pc = .ok (.if_icmp .eq off, 3)) (hp : pc + 3 = q) (ht : (pc : Int) + off = (t : Nat)) (k1 : x = y → K t L st M) (k2 : ¬ x = y → K q L st M) : K pc L (vI y :: vI x :: st) M := by
  subst hp
  exact hK.1 _ _ _ _ _ _ hd ⟨rfl, x, y, st, t, rfl, ht, k1, k2⟩
theorem k_cne (hK : ra_Clo C mi b Q K) {x y off : Int} {t : Nat} (hd : decode b pc = .ok (.if_icmp .ne off, 3)) (hp : pc + 3 = q) (ht : (pc : Int) + off = (t : Nat)) (k1 : ¬ x = y → K t L st M) (k2 : x = y → K q L st M) : K pc L (vI y :: vI x :: st) M := by
  subst hp
  exact hK.1 _ _ _ _ _ _ hd ⟨rfl, x, y, st, t, rfl, ht, k1, k2⟩
theorem k_clt (hK : ra_Clo C mi b Q K) {x y off : Int} {t : Nat} (hd : decode b pc = .ok (.if_icmp .lt off, 3)) (hp : pc + 3 = q) (ht : (pc : Int) + off = (t : Nat)) (k1 : x < y → K t L st M) (k2 : ¬ x < y → K q L st M) : K pc L (vI y :: vI x :: st) M := by
  subst hp
  exact hK.1 _ _ _ _ _ _ hd ⟨rfl, x, y, st, t, rfl, ht, k1, k2⟩
theorem k_cge (hK : ra_Clo C mi b Q K) {x y off : Int} {t : Nat} (hd : decode b pc = .ok (.if_icmp .ge off, 3)) (hp : pc + 3 = q) (ht : (pc : Int) + off = (t : Nat)) (k1 : y ≤ x → K t L st M) (k2 : ¬ y ≤ x → K q L st M) : K pc L (vI y :: vI x :: st) M := by
  subst hp
  exact hK.1 _ _ _ _ _ _ hd ⟨rfl, x, y, st, t, rfl, ht, k1, k2⟩
theorem k_cgt (hK : ra_Clo C mi b Q K) {x y off : Int} {t : Nat} (hd : decode b pc = .ok (.if_icmp .gt off, 3)) (hp : pc + 3 = q) (ht : (pc : Int) + off = (t : Nat)) (k1 : y < x → K t L st M) (k2 : ¬ y < x → K q L st M) : K pc L (vI y :: vI x :: st) M := by
  subst hp
  exact hK.1 _ _ _ _ _ _ hd ⟨rfl, x, y, st, t, rfl, ht, k1, k2⟩
theorem k_cle (hK : ra_Clo C mi b Q K) {x y off : Int} {t : Nat} (hd : decode b pc = .ok (.if_icmp .le off, 3)) (hp : pc + 3 = q) (ht : (pc : Int) + off = (t : Nat)) (k1 : x ≤ y → K t L st M) (k2 : ¬ x ≤ y → K q L st M) : K pc L (vI y :: vI x :: st) M := by
  subst hp
  exact hK.1 _ _ _ _ _ _ hd ⟨rfl, x, y, st, t, rfl, ht, k1, k2⟩
theorem k_goto (hK : ra_Clo C mi b Q K) {off : Int} {t : Nat} (hd : decode b pc = .ok (.goto off, 3)) (ht : (pc : Int) + off = (t : Nat)) (k : K t L St M) : K pc L St M := hK.1 _ _ _ _ _ _ hd ⟨rfl, t, ht, k⟩
theorem k_ts (hK : ra_Clo C mi b Q K) {z dflt lo hi : Int} {offs : Array Int} {len : Nat} (hd : decode b pc = .ok (.tableswitch dflt lo hi offs, len)) (k1 : (z < lo ∨ hi < z) → ∃ tgt, (pc : Int) + dflt = (tgt : Nat) ∧ K tgt L st M) (k2 : ¬ (z < lo ∨ hi < z) → ∃ off tgt, offs[(z - lo).toNat]? = some off ∧ (pc : Int) + off = (tgt : Nat) ∧ K tgt L st M) : K pc L (vI z :: st) M := hK.1 _ _ _ _ _ _ hd ⟨z, st, rfl, k1, k2⟩
theorem k_gI (hK : ra_Clo C mi b Q K) {x k0 ci j : Nat} {z : Int} {ks : List Nat} (kd : Nat) (hd : decode b pc = .ok (.getfield x, 3)) (hp : pc + 3 = q) (hF : ra_F (mY mi).cls x ci j) (hs : SH[k0]? = some (.inr (ci, ks))) (hk : ks[j]? = some kd) (hkd : ra_fa kd z = vI z) (hz : M k0 (j : Nat) = z) (k : K q L (vI z :: st) M) : K pc L (vR k0 :: st) M := by
  subst hp
  exact hK.1 _ _ _ _ _ _ hd ⟨rfl, k0, st, ci, ks, j, kd, rfl, hF, hs, hk, by rw [hz, hkd]; exact k⟩
theorem k_gR (hK : ra_Clo C mi b Q K) {x k0 ci j r : Nat} {ks : List Nat} (hd : decode b pc = .ok (.getfield x, 3)) (hp : pc + 3 = q) (hF : ra_F (mY mi).cls x ci j) (hs : SH[k0]? = some (.inr (ci, ks))) (hk : ks[j]? = some (r + 2)) (k : K q L (vR r :: st) M) : K pc L (vR k0 :: st) M := by
  subst hp
  exact hK.1 _ _ _ _ _ _ hd ⟨rfl, k0, st, ci, ks, j, r + 2, rfl, hF, hs, hk, k⟩
theorem k_pI (hK : ra_Clo C mi b Q K) {x k0 ci j : Nat} {z : Int} {ks : List Nat} (hd : decode b pc = .ok (.putfield x, 3)) (hp : pc + 3 = q) (hF : ra_FP (mY mi).cls x ci j 0) (hs : SH[k0]? = some (.inr (ci, ks))) (hk : ks[j]? = some 0) (hM : up M k0 (j : Nat) z = M2) (k : K q L st M2) : K pc L (vI z :: vR k0 :: st) M := by
  subst hp
  exact hK.1 _ _ _ _ _ _ hd ⟨rfl, z, k0, st, ci, ks, j, 0, rfl, hF, hs, hk, Or.inl rfl, by rw [hM]; exact k⟩
theorem k_pZ (hK : ra_Clo C mi b Q K) {x k0 ci j : Nat} {z : Int} {ks : List Nat} (hd : decode b pc = .ok (.putfield x, 3)) (hp : pc + 3 = q) (hF : ra_FP (mY mi).cls x ci j 1) (hs : SH[k0]? = some (.inr (ci, ks))) (hk : ks[j]? = some 1) (hz : z = 0 ∨ z = 1) (hM : up M k0 (j : Nat) z = M2) (k : K q L st M2) : K pc L (vI z :: vR k0 :: st) M := by
  subst hp
  exact hK.1 _ _ _ _ _ _ hd ⟨rfl, z, k0, st, ci, ks, j, 1, rfl, hF, hs, hk, Or.inr ⟨rfl, hz⟩, by rw [hM]; exact k⟩
theorem k_gs (hK : ra_Clo C mi b Q K) {x : Nat} (hd : decode b pc = .ok (.getstatic x, 3)) (hp : pc + 3 = q) (hG : ra_G (mY mi).cls x) (k : K q L (vR roP :: St) M) : K pc L (St) M := by
  subst hp
  exact hK.1 _ _ _ _ _ _ hd ⟨rfl, hG, k⟩
theorem k_ald (hK : ra_Clo C mi b Q K) {k0 n : Nat} {z y : Int} (hd : decode b pc = .ok (.iaload, 1)) (hp : pc + 1 = q) (hs : SH[k0]? = some (.inl n)) (h : 0 ≤ z ∧ z < (n : Nat)) (hy : M k0 z = y) (k : K q L (vI y :: st) M) : K pc L (vI z :: vR k0 :: st) M := by
  subst hp
  exact hK.1 _ _ _ _ _ _ hd ⟨rfl, z, k0, st, rfl, Or.inl ⟨n, hs, h.1, h.2, by rw [hy]; exact k⟩⟩
theorem k_aldR (hK : ra_Clo C mi b Q K) {z : Int} (hd : decode b pc = .ok (.iaload, 1)) (hp : pc + 1 = q) (h : 0 ≤ z ∧ z < 5) (k : K q L (vI (ra_fc z) :: st) M) : K pc L (vI z :: vR roP :: st) M := by
  subst hp
  exact hK.1 _ _ _ _ _ _ hd ⟨rfl, z, roP, st, rfl, Or.inr ⟨rfl, h.1, h.2, k⟩⟩
theorem k_ast (hK : ra_Clo C mi b Q K) {k0 n : Nat} {z y : Int} (hd : decode b pc = .ok (.iastore, 1)) (hp : pc + 1 = q) (hs : SH[k0]? = some (.inl n)) (h : 0 ≤ z ∧ z < (n : Nat)) (k : K q L st (up M k0 z y)) : K pc L (vI y :: vI z :: vR k0 :: st) M := by
  subst hp
  exact hK.1 _ _ _ _ _ _ hd ⟨rfl, y, z, k0, st, n, rfl, hs, h.1, h.2, k⟩
theorem k_len (hK : ra_Clo C mi b Q K) {k0 n : Nat} {z : Int} (hd : decode b pc = .ok (.arraylength, 1)) (hp : pc + 1 = q) (hs : SH[k0]? = some (.inl n)) (hz : ((n : Nat) : Int) = z) (k : K q L (vI z :: st) M) : K pc L (vR k0 :: st) M := by
  subst hp
  exact hK.1 _ _ _ _ _ _ hd ⟨rfl, k0, st, rfl, Or.inl ⟨n, hs, by rw [hz]; exact k⟩⟩
theorem k_lenR (hK : ra_Clo C mi b Q K) (hd : decode b pc = .ok (.arraylength, 1)) (hp : pc + 1 = q) (k : K q L (vI 5 :: st) M) : K pc L (vR roP :: st) M := by
  subst hp
  exact hK.1 _ _ _ _ _ _ hd ⟨rfl, roP, st, rfl, Or.inr ⟨rfl, k⟩⟩
theorem k_iv0 (hK : ra_Clo (Ex d) mi b Q K) {x k0 ci mj N : Nat} {ks : List Nat} {T : u_T} {P : Option ra_V → ra_M → Prop} (hd : decode b pc = .ok (.invokevirtual x, 3)) (hp : pc + 3 = q) (hm : ra_CV (mY mi).cls x mj 0) (hs : SH[k0]? = some (.inr (ci, ks))) (hc : vwCl[ci]? = some ((mY mj).cls, T, N)) (hl : st.length ≤ 4) (hE : Ex d mj [vR k0] M P) (k : ∀ r M2, P r M2 → K q L (r.toList ++ st) M2) : K pc L (vR k0 :: st) M := by
  subst hp
  exact hK.1 _ _ _ _ _ _ hd ⟨rfl, mj, [], k0, st, ci, ks, T, N, rfl, hm, hs, hc, hl, Ex_mono _ _ _ _ hE k⟩
theorem k_st0 (hK : ra_Clo (Ex d) mi b Q K) {x mj : Nat} {P : Option ra_V → ra_M → Prop} (hd : decode b pc = .ok (.invokestatic x, 3)) (hp : pc + 3 = q) (hm : ra_CS (mY mi).cls x mj 0) (hl : st.length ≤ 4) (hE : Ex d mj [] M P) (k : ∀ r M2, P r M2 → K q L (r.toList ++ st) M2) : K pc L (st) M := by
  subst hp
  exact hK.1 _ _ _ _ _ _ hd ⟨rfl, mj, [], st, rfl, hm, hl, Ex_mono _ _ _ _ hE k⟩
theorem k_iv0I (hK : ra_Clo (Ex d) mi b Q K) {v : Int} {x k0 ci mj N : Nat} {ks : List Nat} {T : u_T} (hd : decode b pc = .ok (.invokevirtual x, 3)) (hp : pc + 3 = q) (hm : ra_CV (mY mi).cls x mj 0) (hs : SH[k0]? = some (.inr (ci, ks))) (hc : vwCl[ci]? = some ((mY mj).cls, T, N)) (hl : st.length ≤ 4) (hE : Ex d mj [vR k0] M (fun r M3 => r = some (vI v) ∧ M3 = M2)) (k : K q L (vI v :: st) M2) : K pc L (vR k0 :: st) M := k_iv0 hK hd hp hm hs hc hl hE (fun r M3 h => by obtain ⟨rfl, rfl⟩ := h; exact k)
theorem k_st0I (hK : ra_Clo (Ex d) mi b Q K) {v : Int} {x mj : Nat} (hd : decode b pc = .ok (.invokestatic x, 3)) (hp : pc + 3 = q) (hm : ra_CS (mY mi).cls x mj 0) (hl : st.length ≤ 4) (hE : Ex d mj [] M (fun r M3 => r = some (vI v) ∧ M3 = M2)) (k : K q L (vI v :: st) M2) : K pc L (st) M := k_st0 hK hd hp hm hl hE (fun r M3 h => by obtain ⟨rfl, rfl⟩ := h; exact k)
theorem k_iv0J (hK : ra_Clo (Ex d) mi b Q K) {v : Int} {x k0 ci mj N : Nat} {ks : List Nat} {T : u_T} (hd : decode b pc = .ok (.invokevirtual x, 3)) (hp : pc + 3 = q) (hm : ra_CV (mY mi).cls x mj 0) (hs : SH[k0]? = some (.inr (ci, ks))) (hc : vwCl[ci]? = some ((mY mj).cls, T, N)) (hl : st.length ≤ 4) (hE : Ex d mj [vR k0] M (fun r M3 => r = some (vJ v) ∧ M3 = M2)) (k : K q L (vJ v :: st) M2) : K pc L (vR k0 :: st) M := k_iv0 hK hd hp hm hs hc hl hE (fun r M3 h => by obtain ⟨rfl, rfl⟩ := h; exact k)
theorem k_st0J (hK : ra_Clo (Ex d) mi b Q K) {v : Int} {x mj : Nat} (hd : decode b pc = .ok (.invokestatic x, 3)) (hp : pc + 3 = q) (hm : ra_CS (mY mi).cls x mj 0) (hl : st.length ≤ 4) (hE : Ex d mj [] M (fun r M3 => r = some (vJ v) ∧ M3 = M2)) (k : K q L (vJ v :: st) M2) : K pc L (st) M := k_st0 hK hd hp hm hl hE (fun r M3 h => by obtain ⟨rfl, rfl⟩ := h; exact k)
theorem k_iv0V (hK : ra_Clo (Ex d) mi b Q K) {x k0 ci mj N : Nat} {ks : List Nat} {T : u_T} (hd : decode b pc = .ok (.invokevirtual x, 3)) (hp : pc + 3 = q) (hm : ra_CV (mY mi).cls x mj 0) (hs : SH[k0]? = some (.inr (ci, ks))) (hc : vwCl[ci]? = some ((mY mj).cls, T, N)) (hl : st.length ≤ 4) (hE : Ex d mj [vR k0] M (fun r M3 => r = none ∧ M3 = M2)) (k : K q L (st) M2) : K pc L (vR k0 :: st) M := k_iv0 hK hd hp hm hs hc hl hE (fun r M3 h => by obtain ⟨rfl, rfl⟩ := h; exact k)
theorem k_st0V (hK : ra_Clo (Ex d) mi b Q K) {x mj : Nat} (hd : decode b pc = .ok (.invokestatic x, 3)) (hp : pc + 3 = q) (hm : ra_CS (mY mi).cls x mj 0) (hl : st.length ≤ 4) (hE : Ex d mj [] M (fun r M3 => r = none ∧ M3 = M2)) (k : K q L (st) M2) : K pc L (st) M := k_st0 hK hd hp hm hl hE (fun r M3 h => by obtain ⟨rfl, rfl⟩ := h; exact k)
theorem k_iv1 (hK : ra_Clo (Ex d) mi b Q K) {x1 : ra_V} {x k0 ci mj N : Nat} {ks : List Nat} {T : u_T} {P : Option ra_V → ra_M → Prop} (hd : decode b pc = .ok (.invokevirtual x, 3)) (hp : pc + 3 = q) (hm : ra_CV (mY mi).cls x mj 1) (hs : SH[k0]? = some (.inr (ci, ks))) (hc : vwCl[ci]? = some ((mY mj).cls, T, N)) (hl : st.length ≤ 4) (hE : Ex d mj [vR k0, x1] M P) (k : ∀ r M2, P r M2 → K q L (r.toList ++ st) M2) : K pc L (x1 :: vR k0 :: st) M := by
  subst hp
  exact hK.1 _ _ _ _ _ _ hd ⟨rfl, mj, [x1], k0, st, ci, ks, T, N, rfl, hm, hs, hc, hl, Ex_mono _ _ _ _ hE k⟩
theorem k_st1 (hK : ra_Clo (Ex d) mi b Q K) {x1 : ra_V} {x mj : Nat} {P : Option ra_V → ra_M → Prop} (hd : decode b pc = .ok (.invokestatic x, 3)) (hp : pc + 3 = q) (hm : ra_CS (mY mi).cls x mj 1) (hl : st.length ≤ 4) (hE : Ex d mj [x1] M P) (k : ∀ r M2, P r M2 → K q L (r.toList ++ st) M2) : K pc L (x1 :: st) M := by
  subst hp
  exact hK.1 _ _ _ _ _ _ hd ⟨rfl, mj, [x1], st, rfl, hm, hl, Ex_mono _ _ _ _ hE k⟩
theorem k_iv1I (hK : ra_Clo (Ex d) mi b Q K) {x1 : ra_V} {v : Int} {x k0 ci mj N : Nat} {ks : List Nat} {T : u_T} (hd : decode b pc = .ok (.invokevirtual x, 3)) (hp : pc + 3 = q) (hm : ra_CV (mY mi).cls x mj 1) (hs : SH[k0]? = some (.inr (ci, ks))) (hc : vwCl[ci]? = some ((mY mj).cls, T, N)) (hl : st.length ≤ 4) (hE : Ex d mj [vR k0, x1] M (fun r M3 => r = some (vI v) ∧ M3 = M2)) (k : K q L (vI v :: st) M2) : K pc L (x1 :: vR k0 :: st) M := k_iv1 hK hd hp hm hs hc hl hE (fun r M3 h => by obtain ⟨rfl, rfl⟩ := h; exact k)
theorem k_st1I (hK : ra_Clo (Ex d) mi b Q K) {x1 : ra_V} {v : Int} {x mj : Nat} (hd : decode b pc = .ok (.invokestatic x, 3)) (hp : pc + 3 = q) (hm : ra_CS (mY mi).cls x mj 1) (hl : st.length ≤ 4) (hE : Ex d mj [x1] M (fun r M3 => r = some (vI v) ∧ M3 = M2)) (k : K q L (vI v :: st) M2) : K pc L (x1 :: st) M := k_st1 hK hd hp hm hl hE (fun r M3 h => by obtain ⟨rfl, rfl⟩ := h; exact k)
theorem k_iv1J (hK : ra_Clo (Ex d) mi b Q K) {x1 : ra_V} {v : Int} {x k0 ci mj N : Nat} {ks : List Nat} {T : u_T} (hd : decode b pc = .ok (.invokevirtual x, 3)) (hp : pc + 3 = q) (hm : ra_CV (mY mi).cls x mj 1) (hs : SH[k0]? = some (.inr (ci, ks))) (hc : vwCl[ci]? = some ((mY mj).cls, T, N)) (hl : st.length ≤ 4) (hE : Ex d mj [vR k0, x1] M (fun r M3 => r = some (vJ v) ∧ M3 = M2)) (k : K q L (vJ v :: st) M2) : K pc L (x1 :: vR k0 :: st) M := k_iv1 hK hd hp hm hs hc hl hE (fun r M3 h => by obtain ⟨rfl, rfl⟩ := h; exact k)
theorem k_st1J (hK : ra_Clo (Ex d) mi b Q K) {x1 : ra_V} {v : Int} {x mj : Nat} (hd : decode b pc = .ok (.invokestatic x, 3)) (hp : pc + 3 = q) (hm : ra_CS (mY mi).cls x mj 1) (hl : st.length ≤ 4) (hE : Ex d mj [x1] M (fun r M3 => r = some (vJ v) ∧ M3 = M2)) (k : K q L (vJ v :: st) M2) : K pc L (x1 :: st) M := k_st1 hK hd hp hm hl hE (fun r M3 h => by obtain ⟨rfl, rfl⟩ := h; exact k)
theorem k_iv1V (hK : ra_Clo (Ex d) mi b Q K) {x1 : ra_V} {x k0 ci mj N : Nat} {ks : List Nat} {T : u_T} (hd : decode b pc = .ok (.invokevirtual x, 3)) (hp : pc + 3 = q) (hm : ra_CV (mY mi).cls x mj 1) (hs : SH[k0]? = some (.inr (ci, ks))) (hc : vwCl[ci]? = some ((mY mj).cls, T, N)) (hl : st.length ≤ 4) (hE : Ex d mj [vR k0, x1] M (fun r M3 => r = none ∧ M3 = M2)) (k : K q L (st) M2) : K pc L (x1 :: vR k0 :: st) M := k_iv1 hK hd hp hm hs hc hl hE (fun r M3 h => by obtain ⟨rfl, rfl⟩ := h; exact k)
theorem k_st1V (hK : ra_Clo (Ex d) mi b Q K) {x1 : ra_V} {x mj : Nat} (hd : decode b pc = .ok (.invokestatic x, 3)) (hp : pc + 3 = q) (hm : ra_CS (mY mi).cls x mj 1) (hl : st.length ≤ 4) (hE : Ex d mj [x1] M (fun r M3 => r = none ∧ M3 = M2)) (k : K q L (st) M2) : K pc L (x1 :: st) M := k_st1 hK hd hp hm hl hE (fun r M3 h => by obtain ⟨rfl, rfl⟩ := h; exact k)
theorem k_iv2 (hK : ra_Clo (Ex d) mi b Q K) {x1 x2 : ra_V} {x k0 ci mj N : Nat} {ks : List Nat} {T : u_T} {P : Option ra_V → ra_M → Prop} (hd : decode b pc = .ok (.invokevirtual x, 3)) (hp : pc + 3 = q) (hm : ra_CV (mY mi).cls x mj 2) (hs : SH[k0]? = some (.inr (ci, ks))) (hc : vwCl[ci]? = some ((mY mj).cls, T, N)) (hl : st.length ≤ 4) (hE : Ex d mj [vR k0, x1, x2] M P) (k : ∀ r M2, P r M2 → K q L (r.toList ++ st) M2) : K pc L (x2 :: x1 :: vR k0 :: st) M := by
  subst hp
  exact hK.1 _ _ _ _ _ _ hd ⟨rfl, mj, [x1, x2], k0, st, ci, ks, T, N, rfl, hm, hs, hc, hl, Ex_mono _ _ _ _ hE k⟩
theorem k_st2 (hK : ra_Clo (Ex d) mi b Q K) {x1 x2 : ra_V} {x mj : Nat} {P : Option ra_V → ra_M → Prop} (hd : decode b pc = .ok (.invokestatic x, 3)) (hp : pc + 3 = q) (hm : ra_CS (mY mi).cls x mj 2) (hl : st.length ≤ 4) (hE : Ex d mj [x1, x2] M P) (k : ∀ r M2, P r M2 → K q L (r.toList ++ st) M2) : K pc L (x2 :: x1 :: st) M := by
  subst hp
  exact hK.1 _ _ _ _ _ _ hd ⟨rfl, mj, [x1, x2], st, rfl, hm, hl, Ex_mono _ _ _ _ hE k⟩
theorem k_iv2I (hK : ra_Clo (Ex d) mi b Q K) {x1 x2 : ra_V} {v : Int} {x k0 ci mj N : Nat} {ks : List Nat} {T : u_T} (hd : decode b pc = .ok (.invokevirtual x, 3)) (hp : pc + 3 = q) (hm : ra_CV (mY mi).cls x mj 2) (hs : SH[k0]? = some (.inr (ci, ks))) (hc : vwCl[ci]? = some ((mY mj).cls, T, N)) (hl : st.length ≤ 4) (hE : Ex d mj [vR k0, x1, x2] M (fun r M3 => r = some (vI v) ∧ M3 = M2)) (k : K q L (vI v :: st) M2) : K pc L (x2 :: x1 :: vR k0 :: st) M := k_iv2 hK hd hp hm hs hc hl hE (fun r M3 h => by obtain ⟨rfl, rfl⟩ := h; exact k)
theorem k_st2I (hK : ra_Clo (Ex d) mi b Q K) {x1 x2 : ra_V} {v : Int} {x mj : Nat} (hd : decode b pc = .ok (.invokestatic x, 3)) (hp : pc + 3 = q) (hm : ra_CS (mY mi).cls x mj 2) (hl : st.length ≤ 4) (hE : Ex d mj [x1, x2] M (fun r M3 => r = some (vI v) ∧ M3 = M2)) (k : K q L (vI v :: st) M2) : K pc L (x2 :: x1 :: st) M := k_st2 hK hd hp hm hl hE (fun r M3 h => by obtain ⟨rfl, rfl⟩ := h; exact k)
theorem k_iv2J (hK : ra_Clo (Ex d) mi b Q K) {x1 x2 : ra_V} {v : Int} {x k0 ci mj N : Nat} {ks : List Nat} {T : u_T} (hd : decode b pc = .ok (.invokevirtual x, 3)) (hp : pc + 3 = q) (hm : ra_CV (mY mi).cls x mj 2) (hs : SH[k0]? = some (.inr (ci, ks))) (hc : vwCl[ci]? = some ((mY mj).cls, T, N)) (hl : st.length ≤ 4) (hE : Ex d mj [vR k0, x1, x2] M (fun r M3 => r = some (vJ v) ∧ M3 = M2)) (k : K q L (vJ v :: st) M2) : K pc L (x2 :: x1 :: vR k0 :: st) M := k_iv2 hK hd hp hm hs hc hl hE (fun r M3 h => by obtain ⟨rfl, rfl⟩ := h; exact k)
theorem k_st2J (hK : ra_Clo (Ex d) mi b Q K) {x1 x2 : ra_V} {v : Int} {x mj : Nat} (hd : decode b pc = .ok (.invokestatic x, 3)) (hp : pc + 3 = q) (hm : ra_CS (mY mi).cls x mj 2) (hl : st.length ≤ 4) (hE : Ex d mj [x1, x2] M (fun r M3 => r = some (vJ v) ∧ M3 = M2)) (k : K q L (vJ v :: st) M2) : K pc L (x2 :: x1 :: st) M := k_st2 hK hd hp hm hl hE (fun r M3 h => by obtain ⟨rfl, rfl⟩ := h; exact k)
theorem k_iv2V (hK : ra_Clo (Ex d) mi b Q K) {x1 x2 : ra_V} {x k0 ci mj N : Nat} {ks : List Nat} {T : u_T} (hd : decode b pc = .ok (.invokevirtual x, 3)) (hp : pc + 3 = q) (hm : ra_CV (mY mi).cls x mj 2) (hs : SH[k0]? = some (.inr (ci, ks))) (hc : vwCl[ci]? = some ((mY mj).cls, T, N)) (hl : st.length ≤ 4) (hE : Ex d mj [vR k0, x1, x2] M (fun r M3 => r = none ∧ M3 = M2)) (k : K q L (st) M2) : K pc L (x2 :: x1 :: vR k0 :: st) M := k_iv2 hK hd hp hm hs hc hl hE (fun r M3 h => by obtain ⟨rfl, rfl⟩ := h; exact k)
theorem k_st2V (hK : ra_Clo (Ex d) mi b Q K) {x1 x2 : ra_V} {x mj : Nat} (hd : decode b pc = .ok (.invokestatic x, 3)) (hp : pc + 3 = q) (hm : ra_CS (mY mi).cls x mj 2) (hl : st.length ≤ 4) (hE : Ex d mj [x1, x2] M (fun r M3 => r = none ∧ M3 = M2)) (k : K q L (st) M2) : K pc L (x2 :: x1 :: st) M := k_st2 hK hd hp hm hl hE (fun r M3 h => by obtain ⟨rfl, rfl⟩ := h; exact k)
theorem k_iv3 (hK : ra_Clo (Ex d) mi b Q K) {x1 x2 x3 : ra_V} {x k0 ci mj N : Nat} {ks : List Nat} {T : u_T} {P : Option ra_V → ra_M → Prop} (hd : decode b pc = .ok (.invokevirtual x, 3)) (hp : pc + 3 = q) (hm : ra_CV (mY mi).cls x mj 3) (hs : SH[k0]? = some (.inr (ci, ks))) (hc : vwCl[ci]? = some ((mY mj).cls, T, N)) (hl : st.length ≤ 4) (hE : Ex d mj [vR k0, x1, x2, x3] M P) (k : ∀ r M2, P r M2 → K q L (r.toList ++ st) M2) : K pc L (x3 :: x2 :: x1 :: vR k0 :: st) M := by
  subst hp
  exact hK.1 _ _ _ _ _ _ hd ⟨rfl, mj, [x1, x2, x3], k0, st, ci, ks, T, N, rfl, hm, hs, hc, hl, Ex_mono _ _ _ _ hE k⟩
theorem k_st3 (hK : ra_Clo (Ex d) mi b Q K) {x1 x2 x3 : ra_V} {x mj : Nat} {P : Option ra_V → ra_M → Prop} (hd : decode b pc = .ok (.invokestatic x, 3)) (hp : pc + 3 = q) (hm : ra_CS (mY mi).cls x mj 3) (hl : st.length ≤ 4) (hE : Ex d mj [x1, x2, x3] M P) (k : ∀ r M2, P r M2 → K q L (r.toList ++ st) M2) : K pc L (x3 :: x2 :: x1 :: st) M := by
  subst hp
  exact hK.1 _ _ _ _ _ _ hd ⟨rfl, mj, [x1, x2, x3], st, rfl, hm, hl, Ex_mono _ _ _ _ hE k⟩
theorem k_iv3I (hK : ra_Clo (Ex d) mi b Q K) {x1 x2 x3 : ra_V} {v : Int} {x k0 ci mj N : Nat} {ks : List Nat} {T : u_T} (hd : decode b pc = .ok (.invokevirtual x, 3)) (hp : pc + 3 = q) (hm : ra_CV (mY mi).cls x mj 3) (hs : SH[k0]? = some (.inr (ci, ks))) (hc : vwCl[ci]? = some ((mY mj).cls, T, N)) (hl : st.length ≤ 4) (hE : Ex d mj [vR k0, x1, x2, x3] M (fun r M3 => r = some (vI v) ∧ M3 = M2)) (k : K q L (vI v :: st) M2) : K pc L (x3 :: x2 :: x1 :: vR k0 :: st) M := k_iv3 hK hd hp hm hs hc hl hE (fun r M3 h => by obtain ⟨rfl, rfl⟩ := h; exact k)
theorem k_st3I (hK : ra_Clo (Ex d) mi b Q K) {x1 x2 x3 : ra_V} {v : Int} {x mj : Nat} (hd : decode b pc = .ok (.invokestatic x, 3)) (hp : pc + 3 = q) (hm : ra_CS (mY mi).cls x mj 3) (hl : st.length ≤ 4) (hE : Ex d mj [x1, x2, x3] M (fun r M3 => r = some (vI v) ∧ M3 = M2)) (k : K q L (vI v :: st) M2) : K pc L (x3 :: x2 :: x1 :: st) M := k_st3 hK hd hp hm hl hE (fun r M3 h => by obtain ⟨rfl, rfl⟩ := h; exact k)
theorem k_iv3J (hK : ra_Clo (Ex d) mi b Q K) {x1 x2 x3 : ra_V} {v : Int} {x k0 ci mj N : Nat} {ks : List Nat} {T : u_T} (hd : decode b pc = .ok (.invokevirtual x, 3)) (hp : pc + 3 = q) (hm : ra_CV (mY mi).cls x mj 3) (hs : SH[k0]? = some (.inr (ci, ks))) (hc : vwCl[ci]? = some ((mY mj).cls, T, N)) (hl : st.length ≤ 4) (hE : Ex d mj [vR k0, x1, x2, x3] M (fun r M3 => r = some (vJ v) ∧ M3 = M2)) (k : K q L (vJ v :: st) M2) : K pc L (x3 :: x2 :: x1 :: vR k0 :: st) M := k_iv3 hK hd hp hm hs hc hl hE (fun r M3 h => by obtain ⟨rfl, rfl⟩ := h; exact k)
theorem k_st3J (hK : ra_Clo (Ex d) mi b Q K) {x1 x2 x3 : ra_V} {v : Int} {x mj : Nat} (hd : decode b pc = .ok (.invokestatic x, 3)) (hp : pc + 3 = q) (hm : ra_CS (mY mi).cls x mj 3) (hl : st.length ≤ 4) (hE : Ex d mj [x1, x2, x3] M (fun r M3 => r = some (vJ v) ∧ M3 = M2)) (k : K q L (vJ v :: st) M2) : K pc L (x3 :: x2 :: x1 :: st) M := k_st3 hK hd hp hm hl hE (fun r M3 h => by obtain ⟨rfl, rfl⟩ := h; exact k)
theorem k_iv3V (hK : ra_Clo (Ex d) mi b Q K) {x1 x2 x3 : ra_V} {x k0 ci mj N : Nat} {ks : List Nat} {T : u_T} (hd : decode b pc = .ok (.invokevirtual x, 3)) (hp : pc + 3 = q) (hm : ra_CV (mY mi).cls x mj 3) (hs : SH[k0]? = some (.inr (ci, ks))) (hc : vwCl[ci]? = some ((mY mj).cls, T, N)) (hl : st.length ≤ 4) (hE : Ex d mj [vR k0, x1, x2, x3] M (fun r M3 => r = none ∧ M3 = M2)) (k : K q L (st) M2) : K pc L (x3 :: x2 :: x1 :: vR k0 :: st) M := k_iv3 hK hd hp hm hs hc hl hE (fun r M3 h => by obtain ⟨rfl, rfl⟩ := h; exact k)
theorem k_st3V (hK : ra_Clo (Ex d) mi b Q K) {x1 x2 x3 : ra_V} {x mj : Nat} (hd : decode b pc = .ok (.invokestatic x, 3)) (hp : pc + 3 = q) (hm : ra_CS (mY mi).cls x mj 3) (hl : st.length ≤ 4) (hE : Ex d mj [x1, x2, x3] M (fun r M3 => r = none ∧ M3 = M2)) (k : K q L (st) M2) : K pc L (x3 :: x2 :: x1 :: st) M := k_st3 hK hd hp hm hl hE (fun r M3 h => by obtain ⟨rfl, rfl⟩ := h; exact k)
theorem k_iv4 (hK : ra_Clo (Ex d) mi b Q K) {x1 x2 x3 x4 : ra_V} {x k0 ci mj N : Nat} {ks : List Nat} {T : u_T} {P : Option ra_V → ra_M → Prop} (hd : decode b pc = .ok (.invokevirtual x, 3)) (hp : pc + 3 = q) (hm : ra_CV (mY mi).cls x mj 4) (hs : SH[k0]? = some (.inr (ci, ks))) (hc : vwCl[ci]? = some ((mY mj).cls, T, N)) (hl : st.length ≤ 4) (hE : Ex d mj [vR k0, x1, x2, x3, x4] M P) (k : ∀ r M2, P r M2 → K q L (r.toList ++ st) M2) : K pc L (x4 :: x3 :: x2 :: x1 :: vR k0 :: st) M := by
  subst hp
  exact hK.1 _ _ _ _ _ _ hd ⟨rfl, mj, [x1, x2, x3, x4], k0, st, ci, ks, T, N, rfl, hm, hs, hc, hl, Ex_mono _ _ _ _ hE k⟩
theorem k_st4 (hK : ra_Clo (Ex d) mi b Q K) {x1 x2 x3 x4 : ra_V} {x mj : Nat} {P : Option ra_V → ra_M → Prop} (hd : decode b pc = .ok (.invokestatic x, 3)) (hp : pc + 3 = q) (hm : ra_CS (mY mi).cls x mj 4) (hl : st.length ≤ 4) (hE : Ex d mj [x1, x2, x3, x4] M P) (k : ∀ r M2, P r M2 → K q L (r.toList ++ st) M2) : K pc L (x4 :: x3 :: x2 :: x1 :: st) M := by
  subst hp
  exact hK.1 _ _ _ _ _ _ hd ⟨rfl, mj, [x1, x2, x3, x4], st, rfl, hm, hl, Ex_mono _ _ _ _ hE k⟩
theorem k_iv4I (hK : ra_Clo (Ex d) mi b Q K) {x1 x2 x3 x4 : ra_V} {v : Int} {x k0 ci mj N : Nat} {ks : List Nat} {T : u_T} (hd : decode b pc = .ok (.invokevirtual x, 3)) (hp : pc + 3 = q) (hm : ra_CV (mY mi).cls x mj 4) (hs : SH[k0]? = some (.inr (ci, ks))) (hc : vwCl[ci]? = some ((mY mj).cls, T, N)) (hl : st.length ≤ 4) (hE : Ex d mj [vR k0, x1, x2, x3, x4] M (fun r M3 => r = some (vI v) ∧ M3 = M2)) (k : K q L (vI v :: st) M2) : K pc L (x4 :: x3 :: x2 :: x1 :: vR k0 :: st) M := k_iv4 hK hd hp hm hs hc hl hE (fun r M3 h => by obtain ⟨rfl, rfl⟩ := h; exact k)
theorem k_st4I (hK : ra_Clo (Ex d) mi b Q K) {x1 x2 x3 x4 : ra_V} {v : Int} {x mj : Nat} (hd : decode b pc = .ok (.invokestatic x, 3)) (hp : pc + 3 = q) (hm : ra_CS (mY mi).cls x mj 4) (hl : st.length ≤ 4) (hE : Ex d mj [x1, x2, x3, x4] M (fun r M3 => r = some (vI v) ∧ M3 = M2)) (k : K q L (vI v :: st) M2) : K pc L (x4 :: x3 :: x2 :: x1 :: st) M := k_st4 hK hd hp hm hl hE (fun r M3 h => by obtain ⟨rfl, rfl⟩ := h; exact k)
theorem k_iv4J (hK : ra_Clo (Ex d) mi b Q K) {x1 x2 x3 x4 : ra_V} {v : Int} {x k0 ci mj N : Nat} {ks : List Nat} {T : u_T} (hd : decode b pc = .ok (.invokevirtual x, 3)) (hp : pc + 3 = q) (hm : ra_CV (mY mi).cls x mj 4) (hs : SH[k0]? = some (.inr (ci, ks))) (hc : vwCl[ci]? = some ((mY mj).cls, T, N)) (hl : st.length ≤ 4) (hE : Ex d mj [vR k0, x1, x2, x3, x4] M (fun r M3 => r = some (vJ v) ∧ M3 = M2)) (k : K q L (vJ v :: st) M2) : K pc L (x4 :: x3 :: x2 :: x1 :: vR k0 :: st) M := k_iv4 hK hd hp hm hs hc hl hE (fun r M3 h => by obtain ⟨rfl, rfl⟩ := h; exact k)
theorem k_st4J (hK : ra_Clo (Ex d) mi b Q K) {x1 x2 x3 x4 : ra_V} {v : Int} {x mj : Nat} (hd : decode b pc = .ok (.invokestatic x, 3)) (hp : pc + 3 = q) (hm : ra_CS (mY mi).cls x mj 4) (hl : st.length ≤ 4) (hE : Ex d mj [x1, x2, x3, x4] M (fun r M3 => r = some (vJ v) ∧ M3 = M2)) (k : K q L (vJ v :: st) M2) : K pc L (x4 :: x3 :: x2 :: x1 :: st) M := k_st4 hK hd hp hm hl hE (fun r M3 h => by obtain ⟨rfl, rfl⟩ := h; exact k)
theorem k_iv4V (hK : ra_Clo (Ex d) mi b Q K) {x1 x2 x3 x4 : ra_V} {x k0 ci mj N : Nat} {ks : List Nat} {T : u_T} (hd : decode b pc = .ok (.invokevirtual x, 3)) (hp : pc + 3 = q) (hm : ra_CV (mY mi).cls x mj 4) (hs : SH[k0]? = some (.inr (ci, ks))) (hc : vwCl[ci]? = some ((mY mj).cls, T, N)) (hl : st.length ≤ 4) (hE : Ex d mj [vR k0, x1, x2, x3, x4] M (fun r M3 => r = none ∧ M3 = M2)) (k : K q L (st) M2) : K pc L (x4 :: x3 :: x2 :: x1 :: vR k0 :: st) M := k_iv4 hK hd hp hm hs hc hl hE (fun r M3 h => by obtain ⟨rfl, rfl⟩ := h; exact k)
theorem k_st4V (hK : ra_Clo (Ex d) mi b Q K) {x1 x2 x3 x4 : ra_V} {x mj : Nat} (hd : decode b pc = .ok (.invokestatic x, 3)) (hp : pc + 3 = q) (hm : ra_CS (mY mi).cls x mj 4) (hl : st.length ≤ 4) (hE : Ex d mj [x1, x2, x3, x4] M (fun r M3 => r = none ∧ M3 = M2)) (k : K q L (st) M2) : K pc L (x4 :: x3 :: x2 :: x1 :: st) M := k_st4 hK hd hp hm hl hE (fun r M3 h => by obtain ⟨rfl, rfl⟩ := h; exact k)
theorem k_ir (hK : ra_Clo C mi b Q K) {z : Int} (hd : decode b pc = .ok (.ireturn, 1)) (hr : mR mi = some .int) (k : Q (some (vI z)) M) : K pc L [vI z] M := hK.1 _ _ _ _ _ _ hd ⟨rfl, z, rfl, Or.inl hr, k⟩
theorem k_irz (hK : ra_Clo C mi b Q K) {z : Int} (hd : decode b pc = .ok (.ireturn, 1)) (hr : mR mi = some .boolean) (hz : z = 0 ∨ z = 1) (k : Q (some (vI z)) M) : K pc L [vI z] M := hK.1 _ _ _ _ _ _ hd ⟨rfl, z, rfl, Or.inr ⟨hr, hz⟩, k⟩
theorem k_lr (hK : ra_Clo C mi b Q K) {z : Int} (hd : decode b pc = .ok (.lreturn, 1)) (hr : mR mi = some .long) (k : Q (some (vJ z)) M) : K pc L [vJ z] M := hK.1 _ _ _ _ _ _ hd ⟨rfl, z, rfl, hr, k⟩
theorem k_vr (hK : ra_Clo C mi b Q K) (hd : decode b pc = .ok (.return_, 1)) (hr : mR mi = none) (k : Q none M) : K pc L [] M := hK.1 _ _ _ _ _ _ hd ⟨rfl, rfl, hr, k⟩
end KR
theorem up_same (M : ra_M) (k : Nat) (j z : Int) : up M k j z k j = z := by simp [up]
theorem up_ne (M : ra_M) {k k2 : Nat} {j j2 z : Int} (h : ¬ (k2 = k ∧ j2 = j)) : up M k j z k2 j2 = M k2 j2 := by simp [up, h]
theorem up_k (M : ra_M) {k k2 : Nat} (j z : Int) (h : k2 ≠ k) : up M k j z k2 = M k2 := by funext x; simp [up, h]
theorem up_j (M : ra_M) (k : Nat) {j j2 z : Int} (h : j2 ≠ j) : up M k j z k j2 = M k j2 := by simp [up, h]
