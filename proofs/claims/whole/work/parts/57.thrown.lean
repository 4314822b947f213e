/-! the exception of mean: the walk to it, and the contract of a mean that throws -/
section RT
variable {p : Program} {l : Launch} {e : Env} {R : Room} {s : State} {m : MethodId} {args : Array Value} {below : List Frame} {meth : Method} {c : Code} {QF : State → Prop} {D : va_G} {cA : ClassId} {ad : Nat → Nat} {A : Nat → Prop}
set_option maxHeartbeats 4000000 in
set_option maxRecDepth 100000 in
theorem ra_stepT {C : Nat → List ra_V → ra_M → (Option ra_V → ra_M → Prop) → Prop} {mi d : Nat} (X : ra_X p s m args meth c D cA ad A mi)
    (hR : d + 1 ≤ R.frames ∧ 34 * d + 34 ≤ R.locals) (hAe : ∀ (M : ra_M) (sz q : Nat), s.heap.size ≤ sz → va_A (ra_w cA ad M) sz q → A q)
    (hcall : ∀ (mj : Nat) (as : List ra_V) (M : ra_M) (Q' : Option ra_V → ra_M → Prop), C mj as M Q' → ra_ok mj → (∀ v ∈ as, ra_okV v) → ra_okM M → ∀ sz : Nat, Met l (mY mj) (mW mj) (ra_rm d) (ra_Pc D cA ad as M sz) (ra_Qc D cA ad Q' (va_A (ra_w cA ad M) sz)) 0 0 (va_A (ra_w cA ad M) sz)) :
    ra_Clo C mi (mB mi) (fun _ _ => False) (ra_KW p l e R s m args below meth c QF D cA ad A (mX mi)) := by
  obtain ⟨hx, hb, hml, hr, hlocks, hown, hts, hK, hsta⟩ := X
  refine ⟨?_, fun pc L L2 St M hw hk H locs ls oL oS oM hl hP hD hS => hk H locs ls (ra_weak_okL hw oL) oS oM (ra_weak_has hw hl) hP hD hS⟩
  intro pc L St M i len hd h H locs ls oL oS oM hl hP hD hS
  unfold ra_stp at h
  split at h
  · obtain ⟨rfl, h1, hk⟩ := h
    exact lv_iconst hx hb hd rfl (hk H locs ls oL (ra_okS_c.mpr ⟨h1, oS⟩) oM hl hP hD hS)
  · obtain ⟨rfl, h1, hk⟩ := h
    exact lv_bipush hx hb hd (ra_b8 h1) (hk H locs ls oL (ra_okS_c.mpr ⟨⟨by omega, by omega⟩, oS⟩) oM hl hP hD hS)
  · obtain ⟨rfl, h1, hk⟩ := h
    exact lv_sipush hx hb hd (ra_b16 h1) (hk H locs ls oL (ra_okS_c.mpr ⟨⟨by omega, by omega⟩, oS⟩) oM hl hP hD hS)
  · rename_i n
    obtain ⟨rfl, hk⟩ := h
    exact lv_lconst hx hb hd Int64.ofInt_eq_ofNat.symm (hk H locs ls oL (ra_okS_c.mpr ⟨⟨by omega, by omega⟩, oS⟩) oM hl hP hD hS)
  · obtain ⟨rfl, z, h1, hk⟩ := h
    exact lv_ldc hx hb hown (hts _ h1.1) hd (hk H locs ls oL (ra_okS_c.mpr ⟨h1.2, oS⟩) oM hl hP hD hS)
  · obtain ⟨rfl, z, h1, hk⟩ := h
    exact lv_ldc2 hx hb hown (hts _ h1.1) hd (hk H locs ls oL (ra_okS_c.mpr ⟨h1.2, oS⟩) oM hl hP hD hS)
  · obtain ⟨rfl, z, h1, hk⟩ := h
    exact lv_iload_n hx hb hd rfl (hl.2.2.2 _ _ h1) (hk H locs ls oL (ra_okS_c.mpr ⟨oL _ _ h1, oS⟩) oM hl hP hD hS)
  · obtain ⟨rfl, z, h1, hk⟩ := h
    exact lv_iload hx hb hd (hl.2.2.2 _ _ h1) (hk H locs ls oL (ra_okS_c.mpr ⟨oL _ _ h1, oS⟩) oM hl hP hD hS)
  · obtain ⟨rfl, z, h1, hk⟩ := h
    exact lv_lload_n hx hb hd rfl (hl.2.2.2 _ _ h1) (hk H locs ls oL (ra_okS_c.mpr ⟨oL _ _ h1, oS⟩) oM hl hP hD hS)
  · obtain ⟨rfl, z, h1, hk⟩ := h
    exact lv_lload hx hb hd (hl.2.2.2 _ _ h1) (hk H locs ls oL (ra_okS_c.mpr ⟨oL _ _ h1, oS⟩) oM hl hP hD hS)
  · obtain ⟨rfl, z, h1, hk⟩ := h
    exact lv_aload_n hx hb hd rfl (hl.2.2.2 _ _ h1) (hk H locs ls oL (ra_okS_c.mpr ⟨oL _ _ h1, oS⟩) oM hl hP hD hS)
  · obtain ⟨rfl, z, h1, hk⟩ := h
    exact lv_aload hx hb hd (hl.2.2.2 _ _ h1) (hk H locs ls oL (ra_okS_c.mpr ⟨oL _ _ h1, oS⟩) oM hl hP hD hS)
  · obtain ⟨rfl, z, st, rfl, h1, hk⟩ := h
    obtain ⟨oz, os⟩ := ra_okS_c.mp oS
    exact lv_istore_n hx hb hd rfl hl.en (by rw [hl.2.2.1] at h1; exact h1) rfl (fun ls9 hl9 => hk H locs ls9 (ra_okL_st oL oz) os oM (ra_has.st hl.2.2.1 hl9) hP hD hS)
  · obtain ⟨rfl, z, st, rfl, h1, hk⟩ := h
    obtain ⟨oz, os⟩ := ra_okS_c.mp oS
    exact lv_istore hx hb hd hl.en (by rw [hl.2.2.1] at h1; exact h1) rfl (fun ls9 hl9 => hk H locs ls9 (ra_okL_st oL oz) os oM (ra_has.st hl.2.2.1 hl9) hP hD hS)
  · obtain ⟨rfl, z, st, rfl, h1, hk⟩ := h
    obtain ⟨oz, os⟩ := ra_okS_c.mp oS
    exact lv_lstore_n hx hb hd rfl hl.en (by rw [hl.2.2.1] at h1; exact h1) rfl (fun ls9 hl9 => hk H locs ls9 (ra_okL_st2 oL oz) os oM (ra_has.st2 hl.2.2.1 hl9) hP hD hS)
  · obtain ⟨rfl, z, st, rfl, h1, hk⟩ := h
    obtain ⟨oz, os⟩ := ra_okS_c.mp oS
    exact lv_lstore hx hb hd hl.en (by rw [hl.2.2.1] at h1; exact h1) rfl (fun ls9 hl9 => hk H locs ls9 (ra_okL_st2 oL oz) os oM (ra_has.st2 hl.2.2.1 hl9) hP hD hS)
  · obtain ⟨rfl, z, h1, h2, hk⟩ := h
    obtain ⟨k9, hk9⟩ := List.getElem?_of_mem (ra_en_in (ad := ad) h1)
    exact lv_iinc hx hb hd hl.en hk9 (Int32.ofInt_add _ _).symm (by rw [← hl.2.2.1]; exact (List.getElem?_eq_some_iff.mp h1).1) rfl (fun ls9 hl9 => hk H locs ls9 (ra_okL_st oL h2) oS oM (ra_has.st hl.2.2.1 hl9) hP hD hS)
  · obtain ⟨rfl, a, b, st, rfl, h1, hk⟩ := h
    obtain ⟨ob, os⟩ := ra_okS_c.mp oS
    obtain ⟨oa, os⟩ := ra_okS_c.mp os
    refine lv_iadd hx hb hd ?_
    rw [← Int32.ofInt_add]
    exact hk H locs ls oL (ra_okS_c.mpr ⟨h1, os⟩) oM hl hP hD hS
  · obtain ⟨rfl, a, b, st, rfl, h1, hk⟩ := h
    obtain ⟨ob, os⟩ := ra_okS_c.mp oS
    obtain ⟨oa, os⟩ := ra_okS_c.mp os
    refine lv_isub hx hb hd ?_
    rw [← Int32.ofInt_sub]
    exact hk H locs ls oL (ra_okS_c.mpr ⟨h1, os⟩) oM hl hP hD hS
  · obtain ⟨rfl, a, b, st, rfl, h1, hk⟩ := h
    obtain ⟨ob, os⟩ := ra_okS_c.mp oS
    obtain ⟨oa, os⟩ := ra_okS_c.mp os
    refine lv_imul hx hb hd ?_
    rw [← Int32.ofInt_mul]
    exact hk H locs ls oL (ra_okS_c.mpr ⟨h1, os⟩) oM hl hP hD hS
  · obtain ⟨rfl, a, st, rfl, h1, hk⟩ := h
    obtain ⟨oa, os⟩ := ra_okS_c.mp oS
    refine lv_ineg hx hb hd ?_
    rw [← Int32.ofInt_neg]
    exact hk H locs ls oL (ra_okS_c.mpr ⟨h1, os⟩) oM hl hP hD hS
  · obtain ⟨rfl, a, b, st, rfl, h0, h1, hk⟩ := h
    obtain ⟨ob, os⟩ := ra_okS_c.mp oS
    obtain ⟨oa, os⟩ := ra_okS_c.mp os
    refine lv_idiv hx hb hd (fun q => h0 ((ra_eq0 ob).mp q)) ?_
    rw [ra_div oa ob h1]
    exact hk H locs ls oL (ra_okS_c.mpr ⟨h1, os⟩) oM hl hP hD hS
  · obtain ⟨rfl, a, b, st, rfl, h0, h1, hk⟩ := h
    obtain ⟨ob, os⟩ := ra_okS_c.mp oS
    obtain ⟨oa, os⟩ := ra_okS_c.mp os
    refine lv_irem hx hb hd (fun q => h0 ((ra_eq0 ob).mp q)) ?_
    rw [ra_rem oa ob h1]
    exact hk H locs ls oL (ra_okS_c.mpr ⟨h1, os⟩) oM hl hP hD hS
  · obtain ⟨rfl, a, b, st, rfl, hk⟩ := h
    obtain ⟨ob, os⟩ := ra_okS_c.mp oS
    obtain ⟨oa, os⟩ := ra_okS_c.mp os
    refine lv_iand hx hb hd ?_
    rw [ra_nand]
    exact hk H locs ls oL (ra_okS_c.mpr ⟨ra_in_and oa, os⟩) oM hl hP hD hS
  · obtain ⟨rfl, a, b, st, rfl, hk⟩ := h
    obtain ⟨ob, os⟩ := ra_okS_c.mp oS
    obtain ⟨oa, os⟩ := ra_okS_c.mp os
    refine lv_ior hx hb hd ?_
    rw [ra_nor]
    exact hk H locs ls oL (ra_okS_c.mpr ⟨ra_in_or oa ob, os⟩) oM hl hP hD hS
  · obtain ⟨rfl, a, b, st, rfl, h1, h2, hk⟩ := h
    obtain ⟨ob, os⟩ := ra_okS_c.mp oS
    obtain ⟨oa, os⟩ := ra_okS_c.mp os
    refine lv_ishl hx hb hd ?_
    rw [ra_nshl a b h1 h2]
    exact hk H locs ls oL (ra_okS_c.mpr ⟨⟨by omega, by omega⟩, os⟩) oM hl hP hD hS
  · obtain ⟨rfl, a, b, st, rfl, h1, hk⟩ := h
    obtain ⟨ob, os⟩ := ra_okS_c.mp oS
    obtain ⟨oa, os⟩ := ra_okS_c.mp os
    have ha : a < 2147483648 := by have := oa.2; omega
    have hq := Nat.div_le_self a (2 ^ b)
    have hin : in32 ((a / 2 ^ b : Nat) : Int) := by
      generalize a / 2 ^ b = w at hq
      exact ⟨by omega, by omega⟩
    refine lv_ishr hx hb hd ?_
    rw [ra_nshr a b h1 ha]
    exact hk H locs ls oL (ra_okS_c.mpr ⟨hin, os⟩) oM hl hP hD hS
  · obtain ⟨rfl, a, st, rfl, hk⟩ := h
    obtain ⟨oa, os⟩ := ra_okS_c.mp oS
    refine lv_i2l hx hb hd (v := Int64.ofInt a) (Int64.toInt_inj.mp ?_) (hk H locs ls oL (ra_okS_c.mpr ⟨⟨by have := oa.1; omega, by have := oa.2; omega⟩, os⟩) oM hl hP hD hS)
    rw [Int32.toInt_toInt64, ra_ti oa, ra_tj ⟨by have := oa.1; omega, by have := oa.2; omega⟩]
  · obtain ⟨rfl, a, b, st, rfl, h1, hk⟩ := h
    obtain ⟨ob, os⟩ := ra_okS_c.mp oS
    obtain ⟨oa, os⟩ := ra_okS_c.mp os
    refine lv_ladd hx hb hd ?_
    rw [← Int64.ofInt_add]
    exact hk H locs ls oL (ra_okS_c.mpr ⟨h1, os⟩) oM hl hP hD hS
  · obtain ⟨rfl, a, b, st, rfl, h1, hk⟩ := h
    obtain ⟨ob, os⟩ := ra_okS_c.mp oS
    obtain ⟨oa, os⟩ := ra_okS_c.mp os
    refine lv_lsub hx hb hd ?_
    rw [← Int64.ofInt_sub]
    exact hk H locs ls oL (ra_okS_c.mpr ⟨h1, os⟩) oM hl hP hD hS
  · obtain ⟨rfl, a, b, st, rfl, h1, hk⟩ := h
    obtain ⟨ob, os⟩ := ra_okS_c.mp oS
    obtain ⟨oa, os⟩ := ra_okS_c.mp os
    refine lv_lmul hx hb hd ?_
    rw [← Int64.ofInt_mul]
    exact hk H locs ls oL (ra_okS_c.mpr ⟨h1, os⟩) oM hl hP hD hS
  · obtain ⟨rfl, a, b, st, rfl, h0, h1, hk⟩ := h
    obtain ⟨ob, os⟩ := ra_okS_c.mp oS
    obtain ⟨oa, os⟩ := ra_okS_c.mp os
    refine lv_ldiv hx hb hd (fun q => h0 ?_) ?_
    · have e9 : (Int64.ofInt b).toInt = 0 := by rw [q]; rfl
      rwa [ra_tj ob] at e9
    · rw [ra_divJ oa ob h1]
      exact hk H locs ls oL (ra_okS_c.mpr ⟨h1, os⟩) oM hl hP hD hS
  · obtain ⟨rfl, a, b, st, rfl, hk⟩ := h
    obtain ⟨ob, os⟩ := ra_okS_c.mp oS
    obtain ⟨oa, os⟩ := ra_okS_c.mp os
    obtain ⟨z, z1, z2, z3⟩ := ra_xor oa ob
    refine lv_lxor hx hb hd ?_
    rw [z3]
    exact hk z z1 z2 H locs ls oL (ra_okS_c.mpr ⟨z1, os⟩) oM hl hP hD hS
  · obtain ⟨rfl, a, b, st, rfl, hk⟩ := h
    obtain ⟨ob, os⟩ := ra_okS_c.mp oS
    obtain ⟨oa, os⟩ := ra_okS_c.mp os
    refine W.lcmp hx hb hd ?_
    rw [ra_cmpJ oa ob]
    exact hk H locs ls oL (ra_okS_c.mpr ⟨by show in32 _; unfold in32; repeat' split <;> omega, os⟩) oM hl hP hD hS
  · obtain ⟨rfl, v, st, rfl, h1, hk⟩ := h
    obtain ⟨ov, os⟩ := ra_okS_c.mp oS
    exact lv_dup hx hb hd (by rw [ra_cat, h1]; rfl) (hk H locs ls oL (ra_okS_c.mpr ⟨ov, oS⟩) oM hl hP hD hS)
  · obtain ⟨rfl, v, w, st, rfl, h1, h2, hk⟩ := h
    obtain ⟨ov, os⟩ := ra_okS_c.mp oS
    obtain ⟨ow, os⟩ := ra_okS_c.mp os
    exact lv_dup2_11 hx hb hd (by rw [ra_cat, h1]; rfl) (by rw [ra_cat, h2]; rfl) (hk H locs ls oL (ra_okS_c.mpr ⟨ov, ra_okS_c.mpr ⟨ow, oS⟩⟩) oM hl hP hD hS)
  · obtain ⟨rfl, v, st, rfl, h1, hk⟩ := h
    obtain ⟨ov, os⟩ := ra_okS_c.mp oS
    exact lv_pop hx hb hd (by rw [ra_cat, h1]; rfl) (hk H locs ls oL os oM hl hP hD hS)
  · obtain ⟨rfl, z, st, tgt, rfl, ht, k1, k2⟩ := h
    obtain ⟨oz, os⟩ := ra_okS_c.mp oS
    exact lv_if_eq hx hb hd ht (fun q => k1 ((ra_eq0 oz).mp q) H locs ls oL os oM hl hP hD hS) (fun q => k2 (fun q2 => q ((ra_eq0 oz).mpr q2)) H locs ls oL os oM hl hP hD hS)
  · obtain ⟨rfl, z, st, tgt, rfl, ht, k1, k2⟩ := h
    obtain ⟨oz, os⟩ := ra_okS_c.mp oS
    exact lv_if_ne hx hb hd ht (fun q => k1 (fun q2 => q ((ra_eq0 oz).mpr q2)) H locs ls oL os oM hl hP hD hS) (fun q => k2 ((ra_eq0 oz).mp q) H locs ls oL os oM hl hP hD hS)
  · obtain ⟨rfl, z, st, tgt, rfl, ht, k1, k2⟩ := h
    obtain ⟨oz, os⟩ := ra_okS_c.mp oS
    exact lv_if_lt hx hb hd ht (fun q => k1 ((ra_lt0 oz).mp q) H locs ls oL os oM hl hP hD hS) (fun q => k2 (fun q2 => q ((ra_lt0 oz).mpr q2)) H locs ls oL os oM hl hP hD hS)
  · obtain ⟨rfl, z, st, tgt, rfl, ht, k1, k2⟩ := h
    obtain ⟨oz, os⟩ := ra_okS_c.mp oS
    exact lv_if_ge hx hb hd ht (fun q => k1 ((ra_0le oz).mp q) H locs ls oL os oM hl hP hD hS) (fun q => k2 (fun q2 => q ((ra_0le oz).mpr q2)) H locs ls oL os oM hl hP hD hS)
  · obtain ⟨rfl, z, st, tgt, rfl, ht, k1, k2⟩ := h
    obtain ⟨oz, os⟩ := ra_okS_c.mp oS
    exact lv_if_gt hx hb hd ht (fun q => k1 ((ra_0lt oz).mp q) H locs ls oL os oM hl hP hD hS) (fun q => k2 (fun q2 => q ((ra_0lt oz).mpr q2)) H locs ls oL os oM hl hP hD hS)
  · obtain ⟨rfl, z, st, tgt, rfl, ht, k1, k2⟩ := h
    obtain ⟨oz, os⟩ := ra_okS_c.mp oS
    exact lv_if_le hx hb hd ht (fun q => k1 ((ra_le0 oz).mp q) H locs ls oL os oM hl hP hD hS) (fun q => k2 (fun q2 => q ((ra_le0 oz).mpr q2)) H locs ls oL os oM hl hP hD hS)
  · obtain ⟨rfl, a, b, st, tgt, rfl, ht, k1, k2⟩ := h
    obtain ⟨ob, os⟩ := ra_okS_c.mp oS
    obtain ⟨oa, os⟩ := ra_okS_c.mp os
    exact lv_icmp_eq hx hb hd ht (fun q => k1 ((ra_eq oa ob).mp q) H locs ls oL os oM hl hP hD hS) (fun q => k2 (fun q2 => q ((ra_eq oa ob).mpr q2)) H locs ls oL os oM hl hP hD hS)
  · obtain ⟨rfl, a, b, st, tgt, rfl, ht, k1, k2⟩ := h
    obtain ⟨ob, os⟩ := ra_okS_c.mp oS
    obtain ⟨oa, os⟩ := ra_okS_c.mp os
    exact lv_icmp_ne hx hb hd ht (fun q => k1 (fun q2 => q ((ra_eq oa ob).mpr q2)) H locs ls oL os oM hl hP hD hS) (fun q => k2 ((ra_eq oa ob).mp q) H locs ls oL os oM hl hP hD hS)
  · obtain ⟨rfl, a, b, st, tgt, rfl, ht, k1, k2⟩ := h
    obtain ⟨ob, os⟩ := ra_okS_c.mp oS
    obtain ⟨oa, os⟩ := ra_okS_c.mp os
    exact lv_icmp_lt hx hb hd ht (fun q => k1 ((ra_lt oa ob).mp q) H locs ls oL os oM hl hP hD hS) (fun q => k2 (fun q2 => q ((ra_lt oa ob).mpr q2)) H locs ls oL os oM hl hP hD hS)
  · obtain ⟨rfl, a, b, st, tgt, rfl, ht, k1, k2⟩ := h
    obtain ⟨ob, os⟩ := ra_okS_c.mp oS
    obtain ⟨oa, os⟩ := ra_okS_c.mp os
    exact lv_icmp_ge hx hb hd ht (fun q => k1 ((ra_le ob oa).mp q) H locs ls oL os oM hl hP hD hS) (fun q => k2 (fun q2 => q ((ra_le ob oa).mpr q2)) H locs ls oL os oM hl hP hD hS)
  · obtain ⟨rfl, a, b, st, tgt, rfl, ht, k1, k2⟩ := h
    obtain ⟨ob, os⟩ := ra_okS_c.mp oS
    obtain ⟨oa, os⟩ := ra_okS_c.mp os
    exact lv_icmp_gt hx hb hd ht (fun q => k1 ((ra_lt ob oa).mp q) H locs ls oL os oM hl hP hD hS) (fun q => k2 (fun q2 => q ((ra_lt ob oa).mpr q2)) H locs ls oL os oM hl hP hD hS)
  · obtain ⟨rfl, a, b, st, tgt, rfl, ht, k1, k2⟩ := h
    obtain ⟨ob, os⟩ := ra_okS_c.mp oS
    obtain ⟨oa, os⟩ := ra_okS_c.mp os
    exact lv_icmp_le hx hb hd ht (fun q => k1 ((ra_le oa ob).mp q) H locs ls oL os oM hl hP hD hS) (fun q => k2 (fun q2 => q ((ra_le oa ob).mpr q2)) H locs ls oL os oM hl hP hD hS)
  · obtain ⟨rfl, tgt, ht, hk⟩ := h
    exact lv_goto hx hb hd ht (hk H locs ls oL oS oM hl hP hD hS)
  · rename_i dflt lo hi offs
    obtain ⟨z, st, rfl, k1, k2⟩ := h
    obtain ⟨oz, os⟩ := ra_okS_c.mp oS
    have ez := ra_ti oz
    by_cases hc : z < lo ∨ hi < z
    · obtain ⟨tgt, ht, hk⟩ := k1 hc
      exact lv_tableOut hx hb hd (by rw [ez]; exact hc) ht (hk H locs ls oL os oM hl hP hD hS)
    · obtain ⟨off, tgt, ho, ht, hk⟩ := k2 hc
      exact lv_tableIn hx hb hd (by rw [ez]; exact fun q => hc (Or.inl q)) (by rw [ez]; exact fun q => hc (Or.inr q)) (by rw [ez]; exact ho) ht (hk H locs ls oL os oM hl hP hD hS)
  · obtain ⟨rfl, k0, st, ci, ks, j, kd, rfl, hF, hsh, hkd, hk⟩ := h
    obtain ⟨ok0, os⟩ := ra_okS_c.mp oS
    obtain ⟨C1, T1, N1, hc, hj, hT1, hlk⟩ := hF
    exact va_get (D := D) (ci := ci) (C := C1) (T := T1) (N := N1) hx hb hts (ra_clsfacts ci C1 T1 N1 hc).1 hown hK hP k0 (ra_w_get hsh) hc j hj (hts _ hlk) (fun x9 q => by rw [hT1] at q; exact q) (ra_fs_get hkd) hd (hk H locs ls oL (ra_okS_c.mpr ⟨ra_ok_fa oM _ _ _, os⟩) oM hl hP hD hS)
  · obtain ⟨rfl, z, k0, st, ci, ks, j, kd, rfl, hF, hsh, hkd, hkz, hk⟩ := h
    obtain ⟨oz, os⟩ := ra_okS_c.mp oS
    obtain ⟨ok0, os⟩ := ra_okS_c.mp os
    obtain ⟨C1, T1, N1, hc, hj, hT1, hlk, hfin, hpd⟩ := hF
    obtain ⟨hin9, ty9, hty9, hnm9⟩ := ra_clsfacts ci C1 T1 N1 hc
    have hk1 : kd ≤ 1 := by omega
    refine va_put (D := D) (ci := ci) (C := C1) (T := T1) (N := N1) (ty := if kd = 0 then .int else .boolean) (v := .int (Int32.ofInt z)) hx hb hts hin9 ty9 hty9 hnm9 hown hK hP hD hS k0 (ra_w_get hsh) hc j hj (hts _ hlk) (fun x9 q => by rw [hT1] at q; exact q) hfin hpd ?_ ?_ ?_ hd (fun H1 locs1 hP1 hD1 hS1 => ?_)
    · rcases hkz with q | ⟨q, q2 | q2⟩
      · rw [if_pos q]; rfl
      · rw [if_neg (by omega), q2]; rfl
      · rw [if_neg (by omega), q2]; rfl
    · rcases hkz with q | ⟨q, q2 | q2⟩
      · rw [if_pos q]; rfl
      · rw [if_neg (by omega), q2]; rfl
      · rw [if_neg (by omega), q2]; rfl
    · simpa using (List.getElem?_eq_some_iff.mp hkd).1
    · have e9 := ra_w_set (cA := cA) (ad := ad) (M := M) (j := (j : Int)) (z := z) hsh (e := .inr (ci, ((List.range ks.length).map (fun j => ra_fv ad (ks.getD j 0) (M k0 (j : Nat)))).set j (.int (Int32.ofInt z)))) (by rw [ra_fs_set hkd hk1]; rfl)
      have hP2 : va_P D vwCl (ra_w cA ad (up M k0 j z)) H1 := by rw [← e9]; exact hP1
      exact hk H1 locs1 ls oL os (ra_okM_up oM _ _ oz) hl hP2 (ra_D_any hD) hS1
  · obtain ⟨rfl, h1, hk⟩ := h
    obtain ⟨hZ, hT, hN⟩ := hsta
    obtain ⟨g1, g2⟩ := h1
    subst g2
    rw [g1] at hown
    exact va_getsN hx hb hZ hS hown (va_Nw.use rfl hN) (fun _ q => q) hd (hk H locs ls oL (ra_okS_c.mpr ⟨trivial, oS⟩) oM hl hP hD hS)
  · obtain ⟨rfl, z, k0, st, rfl, ⟨n, hsh, h0, h1, hk⟩ | ⟨rfl, h0, h1, hk⟩⟩ := h
    · obtain ⟨oz, os⟩ := ra_okS_c.mp oS
      obtain ⟨ok0, os⟩ := ra_okS_c.mp os
      refine va_iald hx hb hK hP k0 0 (ra_w_get hsh) rfl (ra_vin oz h0 h1) hd ?_
      show W p l e R s m args below meth c H locs 0 0 _ (F0 m (pc + 1) ls (.int (Int32.ofInt (M k0 ((Int32.ofInt z).toNatClampNeg : Nat))) :: st.map (ra_cv ad)))
      rw [ra_cl oz h0]
      exact hk H locs ls oL (ra_okS_c.mpr ⟨oM _ _, os⟩) oM hl hP hD hS
    · obtain ⟨oz, os⟩ := ra_okS_c.mp oS
      obtain ⟨ok0, os⟩ := ra_okS_c.mp os
      obtain ⟨hZ, ⟨cell, t1, t2, t3, t4, t5, t6, t7⟩, hN⟩ := hsta
      have hc := ra_cl oz h0
      have hlt : (Int32.ofInt z).toNatClampNeg < 5 := by omega
      refine W.iald (v := .int (Int32.ofInt (ra_fc z))) hx hb (by rw [hS.2.1 _ (Array.getElem?_eq_some_iff.mp t1).1 t7]; exact t1) t2 t3 (fun q => ?_) (by rw [t6 _ hlt, ra_fcv, hc]) rfl rfl hd (hk H locs ls oL (ra_okS_c.mpr ⟨ra_in_fc z, os⟩) oM hl hP hD hS)
      rcases q with q | q
      · exact absurd ((ra_lt0 oz).mp q) (by omega)
      · omega
  · obtain ⟨rfl, y, z, k0, st, n, rfl, hsh, h0, h1, hk⟩ := h
    obtain ⟨oy, os⟩ := ra_okS_c.mp oS
    obtain ⟨oz, os⟩ := ra_okS_c.mp os
    obtain ⟨ok0, os⟩ := ra_okS_c.mp os
    refine va_iast hx hb hK hP hD hS k0 0 (ra_w_get hsh) rfl (ra_vin oz h0 h1) hd (fun H1 locs1 hP1 hD1 hS1 => ?_)
    have e9 := ra_w_set (cA := cA) (ad := ad) (M := M) (j := z) (z := y) hsh (e := .inl (cA, n, .inl (upd (fun i : Nat => Int32.ofInt (M k0 (i : Nat))) (Int32.ofInt z).toNatClampNeg (Int32.ofInt y)))) (ra_arr_set oz h0)
    have hP2 : va_P D vwCl (ra_w cA ad (up M k0 z y)) H1 := by rw [← e9]; exact hP1
    exact hk H1 locs1 ls oL os (ra_okM_up oM _ _ oy) hl hP2 (ra_D_any hD) hS1
  · obtain ⟨rfl, k0, st, rfl, ⟨n, hsh, hk⟩ | ⟨rfl, hk⟩⟩ := h
    · obtain ⟨ok0, os⟩ := ra_okS_c.mp oS
      have hn : in32 (n : Int) := by
        have h9 : SH.all (fun x => match x with | .inl n => decide (n ≤ 10000) | .inr _ => true) = true := by decide +kernel
        have := List.all_eq_true.mp h9 _ (List.mem_of_getElem? hsh)
        have : n ≤ 10000 := by simpa using this
        exact ⟨by omega, by omega⟩
      exact va_alen hx hb hK hP k0 0 (ra_w_get hsh) rfl Int32.ofInt_eq_ofNat.symm hd (hk H locs ls oL (ra_okS_c.mpr ⟨hn, os⟩) oM hl hP hD hS)
    · obtain ⟨ok0, os⟩ := ra_okS_c.mp oS
      obtain ⟨hZ, ⟨cell, t1, t2, t3, t4, t5, t6, t7⟩, hN⟩ := hsta
      exact W.alen (n := 5) hx hb (by rw [hS.2.1 _ (Array.getElem?_eq_some_iff.mp t1).1 t7]; exact t1) t2 t5 rfl rfl hd (hk H locs ls oL (ra_okS_c.mpr ⟨⟨by omega, by omega⟩, os⟩) oM hl hP hD hS)
  · obtain ⟨rfl, mj, as, k0, st, ci, ks, T1, N1, rfl, hcv, hsh, hc, hst, hk⟩ := h
    obtain ⟨hlk, hin, hsel, hpar, hok⟩ := hcv
    have oS2 : (∀ v ∈ as, ra_okV v) ∧ ra_okS st := ⟨fun v hv => oS v (List.mem_append_left _ (List.mem_reverse.mpr hv)), fun v hv => oS v (List.mem_append_right _ (List.mem_cons_of_mem _ hv))⟩
    have hM := hcall mj (vR k0 :: as) M _ hk hok (List.forall_mem_cons.mpr ⟨trivial, oS2.1⟩) oM H.size
    have hcs := ra_catsum ad st
    refine ra_call (va_runV (As := as.map (ra_cv ad)) (rest := st.map (ra_cv ad)) (b := ad k0) (C := (mY mj).cls) (Ts := lwg) ⟨hx, hb, hml, hown, hts⟩ hM ⟨callB_of (ws' := lwg) as.length hts (ra_good hok) rfl rfl rfl (hts _ hok.2.2.1) (hts _ hlk) ⟨hok.1.2.1, hok.1.2.2, hpar⟩ ⟨hR.1, by have := hok.2.2.2; show 8 + (mX mj + 11) + 34 * d ≤ R.locals; omega⟩, hts _ hin, hts _ hsel⟩ ⟨ra_blind, va_recv hK hP hc (ra_w_get hsh), ra_pre hK hsta hAe hP hD hS⟩ rfl (by simp) hl.1 (by simp [ra_cv]) (lv_room (by omega)) hd ⟨Nat.zero_le _, Nat.zero_le _⟩) hS (fun q hq => hAe M H.size q hS.1 hq) (fun r M1 H1 locs1 hq oM1 or1 hP1 hS1 => ?_)
    have := hq H1 locs1 ls oL (fun v hv => by rcases List.mem_append.mp hv with h | h; exact or1 v (Option.mem_toList.mp h); exact oS2.2 v h) oM1 hl hP1 (ra_D_any hD) hS1
    rw [List.map_append] at this
    cases r with
    | none => exact this
    | some v => exact this
  · obtain ⟨rfl, mj, as, st, rfl, hcv, hst, hk⟩ := h
    obtain ⟨hlk, hstt, hpar, hok⟩ := hcv
    have oS2 : (∀ v ∈ as, ra_okV v) ∧ ra_okS st := ⟨fun v hv => oS v (List.mem_append_left _ (List.mem_reverse.mpr hv)), fun v hv => oS v (List.mem_append_right _ hv)⟩
    have hM := hcall mj as M _ hk hok oS2.1 oM H.size
    have hcs := ra_catsum ad st
    refine ra_call (va_runS (As := as.map (ra_cv ad)) (rest := st.map (ra_cv ad)) (Ts := lwg) ⟨hx, hb, hml, hown, hts⟩ hM ⟨callB_of (ws' := lwg) as.length hts (ra_good hok) rfl rfl rfl (hts _ hok.2.2.1) (hts _ hlk) ⟨hok.1.2.1, hok.1.2.2, hpar⟩ ⟨hR.1, by have := hok.2.2.2; show 8 + (mX mj + 11) + 34 * d ≤ R.locals; omega⟩, hts _ hstt⟩ ⟨ra_blind, ra_pre hK hsta hAe hP hD hS⟩ rfl (by simp) hl.1 (by simp) (lv_room (by omega)) hd ⟨Nat.zero_le _, Nat.zero_le _⟩) hS (fun q hq => hAe M H.size q hS.1 hq) (fun r M1 H1 locs1 hq oM1 or1 hP1 hS1 => ?_)
    have := hq H1 locs1 ls oL (fun v hv => by rcases List.mem_append.mp hv with h | h; exact or1 v (Option.mem_toList.mp h); exact oS2.2 v h) oM1 hl hP1 (ra_D_any hD) hS1
    rw [List.map_append] at this
    cases r with
    | none => exact this
    | some v => exact this
  · obtain ⟨rfl, z, rfl, hty, hq9⟩ := h
    exact hq9.elim
  · obtain ⟨rfl, z, rfl, hty, hq9⟩ := h
    exact hq9.elim
  · obtain ⟨rfl, rfl, hty, hq9⟩ := h
    exact hq9.elim
  · exact absurd h id
end RT
set_option maxRecDepth 20000 in
set_option maxHeartbeats 2000000 in
theorem x7_mean47 (M : ra_M) (side : Int) (hs : 0 ≤ side ∧ side ≤ 1) (hk : M 21 10 = 1) (hn : 0 ≤ M 1 5 ∧ M 1 5 ≤ 60) (b26 : ∀ i : Nat, i < 60 → (0 ≤ M 26 (i : Nat) ∧ M 26 (i : Nat) ≤ 7320)) (h0 : sumF (M 26) (M 1 5).toNat = 0)
    (K : Nat → ra_L → List ra_V → ra_M → Prop) (hK : ra_Clo (Ex 0) m_X7_mean cX7_mean (fun _ _ => False) K) (h47 : ∀ z, K 47 [some (vR 0), some (vI side), some (vI z)] [] M) : K 0 (ra_ini m_X7_mean [vR 0, vI side]) [] M := by
  show K 0 [some (vR 0), some (vI side), none] [] M
  refine k_iln hK (q := 1)  dX7_mean_0 rfl (z := side) rfl (k_ic hK (q := 2)  dX7_mean_1 rfl (by decide) (k_ic hK (q := 3)  dX7_mean_2 rfl (by decide) ?_))
  refine k_st3I hK (q := 6) dX7_mean_3 rfl rm_X7_74 (Nat.le_of_ble_eq_true rfl) (t_isWithin _ M side 0 1) ?_
  refine k_ifne hK (q := 9) (t := 12) dX7_mean_6 rfl rfl (fun h6 => ?_) (fun h6 => ?_)
  · have h6 := bi_1.mp h6
    refine k_aln hK (q := 13)  dX7_mean_12 rfl (z := 0) rfl (k_gR hK (q := 16) (r := 21) dX7_mean_13 rfl rf_X7_53 rfl rfl (k_gI hK (q := 19) (z := M 21 10) 1 dX7_mean_16 rfl rf_X7_141 rfl rfl rfl rfl ?_))
    refine k_ifne hK (q := 22) (t := 25) dX7_mean_19 rfl rfl (fun h19 => ?_) (fun h19 => ?_)
    · refine k_aln hK (q := 26)  dX7_mean_25 rfl (z := 0) rfl (k_gR hK (q := 29) (r := 21) dX7_mean_26 rfl rf_X7_53 rfl rfl (k_gR hK (q := 32) (r := 26) dX7_mean_29 rfl rf_X7_185 rfl rfl (k_aln hK (q := 33)  dX7_mean_32 rfl (z := 0) rfl (k_gR hK (q := 36) (r := 1) dX7_mean_33 rfl rf_X7_12 rfl rfl (k_gI hK (q := 39) (z := M 1 5) 0 dX7_mean_36 rfl rf_X7_90 rfl rfl rfl rfl ?_)))))
      refine k_st2I hK (q := 42) dX7_mean_39 rfl rm_X7_194 (Nat.le_of_ble_eq_true rfl) (t_sumOfa _ M (M 1 5) (by omega) b26) ?_
      refine k_isn hK (q := 43)  dX7_mean_42 rfl (L2 := [some (vR 0), some (vI side), some (vI (sumF (M 26) (M 1 5).toNat))]) (Nat.le_of_ble_eq_true rfl) rfl (k_iln hK (q := 44)  dX7_mean_43 rfl (z := (sumF (M 26) (M 1 5).toNat)) rfl ?_)
      refine k_ifne hK (q := 47) (t := 57) dX7_mean_44 rfl rfl (fun h44 => ?_) (fun h44 => ?_)
      · exact absurd h0 h44
      · exact h47 _
    · exact absurd h19 (by omega)
  · have h6 := bi_0.mp h6
    exact absurd h6 (by omega)

/-- the words of the throw that aren't good ones -/
def thW : List Cond := [.declares ⟨"java/lang/RuntimeException", "<init>", "(Ljava/lang/String;)V"⟩, .declares ⟨"java/lang/Exception", "<init>", "(Ljava/lang/String;)V"⟩, .declares ⟨"java/lang/Throwable", "<init>", "(Ljava/lang/String;)V"⟩, .castable "java/lang/ArithmeticException" "java/lang/ArithmeticException"]
def thE : String := "java/lang/ArithmeticException"
def thN : List String := ["java/lang/RuntimeException", "java/lang/Exception"]
/-- what a throw stands on -/
def thS (A : Nat → Prop) (U : State) (H : Heap) : Prop := vx_Zq Bundle.tN "UNASSIGNED_STACK" Bundle.steD A U H ∧ vx_Zq Bundle.tN "SUPPRESSED_SENTINEL" Bundle.listD A U H ∧ (∃ sa, vk_R RX7 200 "no note was played" sa U) ∧ ∀ w ∈ thW, va_Nw w U
theorem thS_move {A B : Nat → Prop} {s U : State} {H : Heap} {locs : List Loc} (h : thS A s s.heap) (hS : va_S A s.heap H locs) (hAB : ∀ q, B q → A q) (hU : U.heap = H) (hW : s.WarmedH U.vm) : thS B U U.heap := by
  obtain ⟨h1, h2, ⟨sa, h3⟩, h4⟩ := h
  rw [hU]
  refine ⟨((h1.kept hS.2.1).moved hW.alike).narrow hAB, ((h2.kept hS.2.1).moved hW.alike).narrow hAB, ⟨sa, vk_R.warm hW h3⟩, fun w hw => ?_⟩
  have h5 := h4 w hw
  simp only [thW, List.mem_cons, List.not_mem_nil, or_false] at hw
  rcases hw with rfl | rfl | rfl | rfl
  · exact va_Nw.warmD hW h5
  · exact va_Nw.warmD hW h5
  · exact va_Nw.warmD hW h5
  · exact va_Nw.warmC hW h5
theorem thS_same {A : Nat → Prop} {u U : State} (hv : u.vm = U.vm) (hh : U.heap = u.heap) (h : thS A u u.heap) : thS A U U.heap := by
  obtain ⟨h1, h2, ⟨sa, h3⟩, h4⟩ := h
  rw [hh]
  have hal : u.vm.Alike U.vm := by rw [hv]; exact Vm.Alike.refl _
  refine ⟨h1.moved hal, h2.moved hal, ⟨sa, vk_R.same hv.symm h3⟩, fun w hw => ?_⟩
  have h5 := h4 w hw
  simp only [thW, List.mem_cons, List.not_mem_nil, or_false] at hw
  rcases hw with rfl | rfl | rfl | rfl
  · exact va_Nw.same rfl hv h5
  · exact va_Nw.same rfl hv h5
  · exact va_Nw.same rfl hv h5
  · exact va_Nw.same rfl hv h5
def thB (D : va_G) (cA : ClassId) (ad : Nat → Nat) (M : ra_M) (sz : Nat) (U : State) : Prop := ra_B D cA ad M sz U ∧ thS (va_A (ra_w cA ad M) sz) U U.heap
theorem th_blind {D : va_G} {cA : ClassId} {ad : Nat → Nat} {as : List Value} {M : ra_M} {sz : Nat} : FrameBlind (va_Pc as (thB D cA ad M sz)) := by
  intro a U g mk q
  obtain ⟨q0, ⟨q1, qP, qK, qD, qZ, qT, qN⟩, qh⟩ := q
  exact ⟨q0, ⟨q1, qP, va_K.moved (u := U) (U := U.calling g mk a) (Vm.Alike.refl U.vm) qK, qD, va_Z.moved (u := U) (U := U.calling g mk a) (Vm.Alike.refl U.vm) qZ, va_T.moved (u := U) (U := U.calling g mk a) (Vm.Alike.refl U.vm) qT, va_Nw.same (u := U) (U := U.calling g mk a) rfl rfl qN⟩, thS_same (u := U) (U := U.calling g mk a) rfl rfl qh⟩
theorem th_in : ∀ w ∈ (vx_atS RX7 202 thE thN).filter goodWord, w ∈ lwg := by decide +kernel
theorem th_bad : ∀ w ∈ (vx_atS RX7 202 thE thN).filter (fun w => !goodWord w), w ∈ thW := by decide +kernel
theorem th_ot : ∀ w ∈ Cond.classLink RX7 198 thE :: Cond.initialized thE :: vx_atS RX7 202 thE thN, vx_ot w = true := by decide +kernel
def thX (D : va_G) (cA : ClassId) (ad : Nat → Nat) (M : ra_M) (A : Nat → Prop) : String → State → State → Prop := vx_X (fun _ : Unit => True) (fun E _ t => E = thE ∧ va_P D vwCl (ra_w cA ad M) t.heap) A
set_option maxRecDepth 20000 in
set_option maxHeartbeats 2000000 in
/-- mean throws: the contract -/
theorem ti_mean {l : Launch} (hst : l.stackTraces = false) (D : va_G) (cA : ClassId) (ad : Nat → Nat) (M : ra_M) (hM : ra_okM M) (side : Int) (his : in32 side) (hs : 0 ≤ side ∧ side ≤ 1) (hk : M 21 10 = 1) (hn : 0 ≤ M 1 5 ∧ M 1 5 ≤ 60) (b26 : ∀ i : Nat, i < 60 → (0 ≤ M 26 (i : Nat) ∧ M 26 (i : Nat) ≤ 7320)) (h0 : sumF (M 26) (M 1 5).toNat = 0) (sz : Nat) :
    vx_Met l (mY m_X7_mean) (mW m_X7_mean) { frames := 6, cells := 1, slots := 6, locals := 82 } (va_Pc ([vR 0, vI side].map (ra_cv ad)) (thB D cA ad M sz)) (va_Qi (S := Unit) (fun _ _ => False) (fun _ _ => True) (va_A (ra_w cA ad M) sz)) (thX D cA ad M (va_A (ra_w cA ad M) sz)) 1 6 (va_A (ra_w cA ad M) sz) := by
  refine vx_ofW (cc := cX7_mean) (maxL := 3) (ret := some .int) (by decide) rfl ?_
  intro p e s m args below meth c s₁ B hml ht hP
  obtain ⟨rfl, ⟨hsz, hPw, hK, hD0, hsta⟩, hth⟩ := hP
  subst hsz
  have hts0 := atoms_spec (ws := mW m_X7_mean) B.pre
  have hts : ∀ w ∈ lwg, w.before ([vR 0, vI side].map (ra_cv ad)).toArray s = true := fun w hw => hts0 w (List.mem_cons_of_mem _ hw)
  have hown : s.vm.findClass RX7 = some m.cls := findClass_of_methodNamed B.named
  rw [lg_entry_eq]
  have hclo := ra_stepT (C := Ex 0) (d := 1) (below := below) (e := e) (R := { frames := 6, cells := 1, slots := 6, locals := 82 }) (l := l) (A := va_A (ra_w cA ad M) s.heap.size) (mi := m_X7_mean)
    (QF := vx_MQ below (va_Qi (S := Unit) (fun _ _ => False) (fun _ _ => True) (va_A (ra_w cA ad M) s.heap.size)) (thX D cA ad M (va_A (ra_w cA ad M) s.heap.size)) ([vR 0, vI side].map (ra_cv ad)).toArray s 1 6 (va_A (ra_w cA ad M) s.heap.size))
    ⟨B.exec, B.bytes, hml, B.returns, B.notSynchronized, hown, hts, hK, hsta⟩ ⟨Nat.le_of_ble_eq_true rfl, Nat.le_of_ble_eq_true rfl⟩ (fun M1 sz1 q h1 h2 => ra_A_any h1 h2) (fun mj as M1 Q' hex hok has oM sz1 => ra_sound 0 mj as M1 Q' hex hok has oM sz1)
  have has : ∀ v ∈ [vR 0, vI side], ra_okV v := by
    intro v hv
    simp only [List.mem_cons, List.not_mem_nil, or_false] at hv
    rcases hv with rfl | rfl
    · trivial
    · exact his
  refine x7_mean47 M side hs hk hn b26 h0 _ hclo (fun z => ?_) s.heap [] _ (ra_okL_ini has) (fun v hv => by cases hv) hM (ra_has_ini (ad := ad) (mi := m_X7_mean) (as := [vR 0, vI side]) (Nat.le_of_ble_eq_true rfl)) hPw hD0.self va_S.rf
  intro H locs ls oL oS oM hls hP hD hS
  obtain ⟨hU, hN, ⟨sa, hsa⟩, hw⟩ := hth
  refine vx_throwS (cc := cX7_mean) (pc := 47) B.exec B.bytes hst (own := RX7) (cls := thE) (text := "no note was played") (names := thN) (ik := 198) (is := 200) (ic := 202) (sa := sa) (A := va_A (ra_w cA ad M) s.heap.size) (rest := []) hown (by decide +kernel) (by decide +kernel)
    (hts _ (lwg_of 677 (by decide +kernel) rfl)) (hts _ (lwg_of 14 (by decide +kernel) rfl)) hsa (vx_hat (B := thW) (fun w h => hts w (th_in w h)) th_bad (fun w h => ?_)) th_ot hU hN hS (hls.1.trans hml.symm)
    dX7_mean_47 dX7_mean_50 dX7_mean_51 dX7_mean_53 dX7_mean_56 (fun x hx => (ht x hx).elim) (Nat.le_of_ble_eq_true rfl) (Nat.le_of_ble_eq_true rfl) (Nat.le_of_ble_eq_true rfl) (Nat.le_of_ble_eq_true rfl) B.notSynchronized
    (fun t hal hz hk9 => ⟨(), trivial, ⟨rfl, hP.kept (fun k x hx => hk9 x.1 ((hP k x hx).lt))⟩, ⟨Nat.le_trans hS.1 hz, fun q h1 h2 => (hk9 q (Nat.lt_of_lt_of_le h1 hS.1)).trans (hS.2.1 q h1 h2)⟩⟩) hS.2.2 (Nat.le_of_ble_eq_true rfl) (Nat.le_of_ble_eq_true rfl)
  have h5 := hw w h
  simp only [thW, List.mem_cons, List.not_mem_nil, or_false] at h
  rcases h with rfl | rfl | rfl | rfl
  · exact va_Nw.use rfl h5
  · exact va_Nw.use rfl h5
  · exact va_Nw.use rfl h5
  · exact va_Nw.use rfl h5
