/-! following, in the class -/

set_option maxRecDepth 20000 in
set_option maxHeartbeats 2000000 in
theorem xc_valueAt (d : Nat) (M : ra_M) (n : Int) (hn : -1 ≤ n ∧ n < 60) : Ex d m_X3_valueAt [vR 15, vI n] M (fun r M2 => r = some (vI (M 16 (n + 1))) ∧ M2 = M) := by
  refine Ex_leaf (Nat.le_of_ble_eq_true rfl) (fun C K hK => ?_)
  show K 0 [some (vR 15), some (vI n)] [] M
  have hK : ra_Clo _ m_X3_valueAt cX3_valueAt _ K := hK
  refine k_aln hK (q := 1)  dX3_valueAt_0 rfl (z := 15) rfl (k_gR hK (q := 4) (r := 16) dX3_valueAt_1 rfl rf_X3_9 rfl rfl (k_iln hK (q := 5)  dX3_valueAt_4 rfl (z := n) rfl (k_ic hK (q := 6)  dX3_valueAt_5 rfl (by decide) (k_add hK (q := 7)  dX3_valueAt_6 rfl (z := n + 1) rfl (by omega) (k_ald hK (q := 8)  dX3_valueAt_7 rfl (y := M 16 (n + 1)) rfl (by omega) rfl ?_)))))
  refine k_ir hK dX3_valueAt_8 rfl ?_
  exact ⟨rfl, rfl⟩

set_option maxRecDepth 20000 in
set_option maxHeartbeats 2000000 in
theorem passOnce_loop {C : Nat → List ra_V → ra_M → (Option ra_V → ra_M → Prop) → Prop} {Q : Option ra_V → ra_M → Prop} {K : Nat → ra_L → List ra_V → ra_M → Prop} (hK : ra_Clo C m_X3_passOnce cX3_passOnce Q K) {S : Sc} (hS : okSc S) {M0 : ra_M}
    (hQ : ∀ (ch : Int) (M2 : ra_M), ch = 0 ∨ ch = 1 → M2 17 = rnd ((El S).map (sk1 S)) (M0 17) → frX [17] M0 M2 → (ch = 0 → M2 17 = M0 17) → Q (some (vI ch)) M2) :
    ∀ (n i : Nat) (M : ra_M) (ch : Int), i + n = (El S).length → scC M = S → (ch = 0 ∨ ch = 1) → NxL M (El S) → M 17 = rnd (((El S).map (sk1 S)).take i) (M0 17) → frX [17] M0 M → (ch = 0 → M 17 = M0 17) → (∀ j, 0 ≤ j → j ≤ S 0 0 → 0 ≤ M 17 j ∧ M 17 j ≤ NV) → K 4 [some (vR 15), some (vI ch), some (vI (i : Nat)), none, none] [] M := by
  have hNV : NV = 1000000000 := rfl
  intro n
  induction n with
  | zero =>
    intro i M ch hi hs hch hn hc hf h0 hr
    have en := hn.1
    have hl74 := El_len hS
    refine k_iln hK (q := 5)  dX3_passOnce_4 rfl (z := (i : Nat)) rfl (k_aln hK (q := 6)  dX3_passOnce_5 rfl (z := 15) rfl (k_gR hK (q := 9) (r := 10) dX3_passOnce_6 rfl rf_X3_22 rfl rfl (k_gI hK (q := 12) (z := M 10 5) 0 dX3_passOnce_9 rfl rf_X3_66 rfl rfl rfl rfl ?_)))
    refine k_cge hK (q := 15) (t := 92) dX3_passOnce_12 rfl rfl (fun h12 => ?_) (fun h12 => ?_)
    · refine k_iln hK (q := 93)  dX3_passOnce_92 rfl (z := ch) rfl ?_
      refine k_irz hK dX3_passOnce_93 rfl (hch) ?_
      have hi2 : (((El S).map (sk1 S))).take i = ((El S).map (sk1 S)) := List.take_of_length_le (by rw [List.length_map]; omega)
      rw [hi2] at hc
      exact hQ ch M hch hc hf h0
    · exact absurd h12 (by omega)
  | succ n ih =>
    intro i M ch hi hs hch hn hc hf h0 hr
    have en := hn.1
    have hl74 := El_len hS
    have hs0 := hS.1
    obtain ⟨a2, a3, a4, a5, a6⟩ := scC_a hs
    have hc2 := hS.2.2.2.2.2.2.2.1 2 (by omega) (by omega)
    rw [← a6] at hc2
    obtain ⟨⟨x, y, w⟩, he⟩ : ∃ e : Eg, (El S)[i]? = some e := ⟨_, List.getElem?_eq_getElem (by omega)⟩
    obtain ⟨g11, g12, g13⟩ := hn.2 i _ he
    have hm := El_mem hS (List.mem_of_getElem? he)
    simp only at g11 g12 g13 hm
    have hE : ((El S).map (sk1 S))[i]? = some (sk1 S (x, y, w)) := by rw [List.getElem?_map, he]; rfl
    have hrx := hr (x + 1) (by omega) (by omega)
    refine k_iln hK (q := 5)  dX3_passOnce_4 rfl (z := (i : Nat)) rfl (k_aln hK (q := 6)  dX3_passOnce_5 rfl (z := 15) rfl (k_gR hK (q := 9) (r := 10) dX3_passOnce_6 rfl rf_X3_22 rfl rfl (k_gI hK (q := 12) (z := M 10 5) 0 dX3_passOnce_9 rfl rf_X3_66 rfl rfl rfl rfl ?_)))
    refine k_cge hK (q := 15) (t := 92) dX3_passOnce_12 rfl rfl (fun h12 => ?_) (fun h12 => ?_)
    · exact absurd h12 (by omega)
    · refine k_aln hK (q := 16)  dX3_passOnce_15 rfl (z := 15) rfl (k_gR hK (q := 19) (r := 17) dX3_passOnce_16 rfl rf_X3_15 rfl rfl (k_aln hK (q := 20)  dX3_passOnce_19 rfl (z := 15) rfl (k_gR hK (q := 23) (r := 10) dX3_passOnce_20 rfl rf_X3_22 rfl rfl (k_gR hK (q := 26) (r := 11) dX3_passOnce_23 rfl rf_X3_71 rfl rfl (k_iln hK (q := 27)  dX3_passOnce_26 rfl (z := (i : Nat)) rfl ?_)))))
      refine k_ald hK (q := 28)  dX3_passOnce_27 rfl (y := M 11 (i : Nat)) rfl (by omega) rfl ?_
      rw [g11]
      refine k_ic hK (q := 29)  dX3_passOnce_28 rfl (by decide) (k_add hK (q := 30)  dX3_passOnce_29 rfl (z := x + 1) rfl (by omega) (k_ald hK (q := 31)  dX3_passOnce_30 rfl (y := M 17 (x + 1)) rfl (by omega) rfl (k_aln hK (q := 32)  dX3_passOnce_31 rfl (z := 15) rfl (k_gR hK (q := 35) (r := 10) dX3_passOnce_32 rfl rf_X3_22 rfl rfl (k_gR hK (q := 38) (r := 13) dX3_passOnce_35 rfl rf_X3_74 rfl rfl ?_)))))
      refine k_iln hK (q := 39)  dX3_passOnce_38 rfl (z := (i : Nat)) rfl (k_ald hK (q := 40)  dX3_passOnce_39 rfl (y := M 13 (i : Nat)) rfl (by omega) rfl ?_)
      rw [g13]
      refine k_add hK (q := 41)  dX3_passOnce_40 rfl (z := (M 17 (x + 1)) + w) rfl (by omega) (k_aln hK (q := 42)  dX3_passOnce_41 rfl (z := 15) rfl (k_gR hK (q := 45) (r := 1) dX3_passOnce_42 rfl rf_X3_18 rfl rfl (k_gR hK (q := 48) (r := 6) dX3_passOnce_45 rfl rf_X3_77 rfl rfl (k_ic hK (q := 49)  dX3_passOnce_48 rfl (by decide) (k_ald hK (q := 50)  dX3_passOnce_49 rfl (y := M 6 2) rfl (by omega) rfl ?_)))))
      refine k_add hK (q := 51)  dX3_passOnce_50 rfl (z := ((M 17 (x + 1)) + w) + (M 6 2)) rfl (by omega) (k_isn hK (q := 52)  dX3_passOnce_51 rfl (L2 := [some (vR 15), some (vI ch), some (vI (i : Nat)), some (vI (((M 17 (x + 1)) + w) + (M 6 2))), none]) (Nat.le_of_ble_eq_true rfl) rfl (k_aln hK (q := 53)  dX3_passOnce_52 rfl (z := 15) rfl (k_gR hK (q := 56) (r := 10) dX3_passOnce_53 rfl rf_X3_22 rfl rfl (k_gR hK (q := 59) (r := 12) dX3_passOnce_56 rfl rf_X3_80 rfl rfl (k_iln hK (q := 60)  dX3_passOnce_59 rfl (z := (i : Nat)) rfl ?_)))))
      refine k_ald hK (q := 61)  dX3_passOnce_60 rfl (y := M 12 (i : Nat)) rfl (by omega) rfl ?_
      rw [g12]
      refine k_ic hK (q := 62)  dX3_passOnce_61 rfl (by decide) (k_add hK (q := 63)  dX3_passOnce_62 rfl (z := y + 1) rfl (by omega) (k_is hK (q := 65)  dX3_passOnce_63 rfl (L2 := [some (vR 15), some (vI ch), some (vI (i : Nat)), some (vI (((M 17 (x + 1)) + w) + (M 6 2))), some (vI (y + 1))]) (Nat.le_of_ble_eq_true rfl) rfl (k_iln hK (q := 66)  dX3_passOnce_65 rfl (z := (((M 17 (x + 1)) + w) + (M 6 2))) rfl (k_aln hK (q := 67)  dX3_passOnce_66 rfl (z := 15) rfl (k_gR hK (q := 70) (r := 17) dX3_passOnce_67 rfl rf_X3_15 rfl rfl ?_)))))
      refine k_il hK (q := 72)  dX3_passOnce_70 rfl (z := (y + 1)) rfl (k_ald hK (q := 73)  dX3_passOnce_72 rfl (y := M 17 (y + 1)) rfl (by omega) rfl ?_)
      refine k_cge hK (q := 76) (t := 86) dX3_passOnce_73 rfl rfl (fun h73 => ?_) (fun h73 => ?_)
      · refine k_inc hK (q := 89)  dX3_passOnce_86 rfl (y := (i : Nat) + 1) (L2 := [some (vR 15), some (vI ch), some (vI ((i : Nat) + 1)), some (vI (((M 17 (x + 1)) + w) + (M 6 2))), some (vI (y + 1))]) rfl rfl (by omega) rfl (k_goto hK (t := 4) dX3_passOnce_89 rfl ?_)
        refine k_weak hK (L2 := [some (vR 15), some (vI ch), some (vI ((i : Nat) + 1)), none, none]) ⟨Or.inl rfl, Or.inl rfl, Or.inl rfl, Or.inr rfl, Or.inr rfl, trivial⟩ ?_
        have hno := lo1_no (c := M 17) (e := sk1 S (x, y, w)) (v := ((M 17 (x + 1)) + w) + (M 6 2)) (by simp only [sk1]; rw [a6]; omega) (by simp only [sk1]; omega)
        exact ih (i + 1) M ch (by omega) hs hch hn (by rw [rnd_take hE, ← hc, hno]) hf h0 hr
      · have h73 : M 17 (x + 1) + w + M 6 2 < M 17 (y + 1) := by omega
        refine k_aln hK (q := 77)  dX3_passOnce_76 rfl (z := 15) rfl (k_gR hK (q := 80) (r := 17) dX3_passOnce_77 rfl rf_X3_15 rfl rfl (k_il hK (q := 82)  dX3_passOnce_80 rfl (z := (y + 1)) rfl (k_iln hK (q := 83)  dX3_passOnce_82 rfl (z := (((M 17 (x + 1)) + w) + (M 6 2))) rfl (k_ast hK (q := 84)  dX3_passOnce_83 rfl rfl (by omega) (k_ic hK (q := 85)  dX3_passOnce_84 rfl (by decide) ?_)))))
        refine k_isn hK (q := 86)  dX3_passOnce_85 rfl (L2 := [some (vR 15), some (vI 1), some (vI (i : Nat)), some (vI (((M 17 (x + 1)) + w) + (M 6 2))), some (vI (y + 1))]) (Nat.le_of_ble_eq_true rfl) rfl (k_inc hK (q := 89)  dX3_passOnce_86 rfl (y := (i : Nat) + 1) (L2 := [some (vR 15), some (vI 1), some (vI ((i : Nat) + 1)), some (vI (((M 17 (x + 1)) + w) + (M 6 2))), some (vI (y + 1))]) rfl rfl (by omega) rfl (k_goto hK (t := 4) dX3_passOnce_89 rfl ?_))
        refine k_weak hK (L2 := [some (vR 15), some (vI 1), some (vI ((i : Nat) + 1)), none, none]) ⟨Or.inl rfl, Or.inl rfl, Or.inl rfl, Or.inr rfl, Or.inr rfl, trivial⟩ ?_
        have hup := lo1_up (M := M) (k := 17) (e := sk1 S (x, y, w)) (v := ((M 17 (x + 1)) + w) + (M 6 2)) (by simp only [sk1]; rw [a6]; omega) h73
        exact ih (i + 1) _ 1 (by omega) (by rw [scC_fr (M := M) (frX_S (l := [17]) (frX_up (frX_refl _ _) _ _ (by decide)) (by decide))]; exact hs) (Or.inr rfl) (NxL_fr hn (up_k _ _ _ (by decide)) (up_k _ _ _ (by decide)) (up_k _ _ _ (by decide)) (up_k _ _ _ (by decide))) (by rw [rnd_take hE, ← hc]; exact hup) (frX_up hf _ _ (by decide)) (fun q => by omega) (fun j a b => by have h5 := hr j a b; have h6 := hr (y + 1) (by omega) (by omega); simp only [up]; split <;> omega)

set_option maxRecDepth 20000 in
set_option maxHeartbeats 2000000 in
theorem xc_passOnce (d : Nat) (M : ra_M) (S : Sc) (hs : scC M = S) (hS : okSc S) (hn : NxL M (El S)) (hr : ∀ j, 0 ≤ j → j ≤ S 0 0 → 0 ≤ M 17 j ∧ M 17 j ≤ NV) : Ex d m_X3_passOnce [vR 15] M (fun r M2 => ∃ ch : Int, r = some (vI ch) ∧ (ch = 0 ∨ ch = 1) ∧ M2 17 = rnd ((El S).map (sk1 S)) (M 17) ∧ frX [17] M M2 ∧ (ch = 0 → M2 17 = M 17)) := by
  refine Ex_leaf (Nat.le_of_ble_eq_true rfl) (fun C K hK => ?_)
  show K 0 [some (vR 15), none, none, none, none] [] M
  have hK : ra_Clo _ m_X3_passOnce cX3_passOnce _ K := hK
  refine k_ic hK (q := 1)  dX3_passOnce_0 rfl (by decide) (k_isn hK (q := 2)  dX3_passOnce_1 rfl (L2 := [some (vR 15), some (vI 0), none, none, none]) (Nat.le_of_ble_eq_true rfl) rfl (k_ic hK (q := 3)  dX3_passOnce_2 rfl (by decide) (k_isn hK (q := 4)  dX3_passOnce_3 rfl (L2 := [some (vR 15), some (vI 0), some (vI 0), none, none]) (Nat.le_of_ble_eq_true rfl) rfl ?_)))
  exact passOnce_loop hK hS (M0 := M) (fun ch M2 h1 h2 h3 h4 => ⟨ch, rfl, h1, h2, h3, h4⟩) (El S).length 0 M 0 (by omega) hs (Or.inl rfl) hn rfl (frX_refl _ _) (fun _ => rfl) hr

set_option maxRecDepth 20000 in
set_option maxHeartbeats 2000000 in
theorem passOn_copy {C : Nat → List ra_V → ra_M → (Option ra_V → ra_M → Prop) → Prop} {Q : Option ra_V → ra_M → Prop} {K : Nat → ra_L → List ra_V → ra_M → Prop} (hK : ra_Clo C m_X3_passOn cX3_passOn Q K) {M0 : ra_M} {nn : Int} (hn0 : 0 ≤ nn ∧ nn ≤ 60)
    (hX : ∀ (M : ra_M), (∀ t : Nat, (t : Int) ≤ nn → M 17 (t : Nat) = M0 16 (t : Nat)) → frX [17] M0 M → ∀ z, K 31 [some (vR 15), some (vI z), none] [] M) :
    ∀ (n i : Nat) (M : ra_M), i + n = nn.toNat + 1 → M 1 5 = nn → (∀ t : Nat, t < i → M 17 (t : Nat) = M0 16 (t : Nat)) → frX [17] M0 M → K 2 [some (vR 15), some (vI (i : Nat)), none] [] M := by
  intro n
  induction n with
  | zero =>
    intro i M hi hnn hc hf
    refine k_iln hK (q := 3)  dX3_passOn_2 rfl (z := (i : Nat)) rfl (k_aln hK (q := 4)  dX3_passOn_3 rfl (z := 15) rfl (k_gR hK (q := 7) (r := 1) dX3_passOn_4 rfl rf_X3_18 rfl rfl (k_gI hK (q := 10) (z := M 1 5) 0 dX3_passOn_7 rfl rf_X3_57 rfl rfl rfl rfl ?_)))
    refine k_cgt hK (q := 13) (t := 31) dX3_passOn_10 rfl rfl (fun h10 => ?_) (fun h10 => ?_)
    · exact hX M (fun t ht => hc t (by omega)) hf _
    · exact absurd h10 (by omega)
  | succ n ih =>
    intro i M hi hnn hc hf
    refine k_iln hK (q := 3)  dX3_passOn_2 rfl (z := (i : Nat)) rfl (k_aln hK (q := 4)  dX3_passOn_3 rfl (z := 15) rfl (k_gR hK (q := 7) (r := 1) dX3_passOn_4 rfl rf_X3_18 rfl rfl (k_gI hK (q := 10) (z := M 1 5) 0 dX3_passOn_7 rfl rf_X3_57 rfl rfl rfl rfl ?_)))
    refine k_cgt hK (q := 13) (t := 31) dX3_passOn_10 rfl rfl (fun h10 => ?_) (fun h10 => ?_)
    · exact absurd h10 (by omega)
    · refine k_aln hK (q := 14)  dX3_passOn_13 rfl (z := 15) rfl (k_gR hK (q := 17) (r := 17) dX3_passOn_14 rfl rf_X3_15 rfl rfl (k_iln hK (q := 18)  dX3_passOn_17 rfl (z := (i : Nat)) rfl (k_aln hK (q := 19)  dX3_passOn_18 rfl (z := 15) rfl (k_gR hK (q := 22) (r := 16) dX3_passOn_19 rfl rf_X3_9 rfl rfl (k_iln hK (q := 23)  dX3_passOn_22 rfl (z := (i : Nat)) rfl ?_)))))
      refine k_ald hK (q := 24)  dX3_passOn_23 rfl (y := M 16 (i : Nat)) rfl (by omega) rfl (k_ast hK (q := 25)  dX3_passOn_24 rfl rfl (by omega) (k_inc hK (q := 28)  dX3_passOn_25 rfl (y := (i : Nat) + 1) (L2 := [some (vR 15), some (vI ((i : Nat) + 1)), none]) rfl rfl (by omega) rfl (k_goto hK (t := 2) dX3_passOn_28 rfl ?_)))
      exact ih (i + 1) _ (by omega) (by rw [up_k _ _ _ (by decide)]; exact hnn) (fun t ht => by by_cases h : t = i; subst h; rw [up_same]; rw [hf 16 (by decide)]; rw [up_j _ _ (by omega)]; exact hc t (by omega)) (frX_up hf _ _ (by decide))

theorem rnd_nn {P : Int → Prop} : ∀ {F : List Eg} {c : Int → Int}, (∀ e ∈ F, 0 ≤ e.2.2) → (∀ e ∈ F, P (e.1 + 1)) → (∀ j, P j → 0 ≤ c j) → ∀ j, P j → 0 ≤ rnd F c j := by
  intro F
  induction F with
  | nil => intro c _ _ h j hj; exact h j hj
  | cons e F ih =>
    intro c h1 h2 h
    refine ih (fun f hf => h1 f (List.mem_cons_of_mem _ hf)) (fun f hf => h2 f (List.mem_cons_of_mem _ hf)) (fun j hj => ?_)
    have h3 := h1 e List.mem_cons_self
    have h4 := h _ (h2 e List.mem_cons_self)
    have h5 := h j hj
    unfold lo1
    split
    · simp only; split <;> omega
    · exact h5

set_option maxRecDepth 20000 in
set_option maxHeartbeats 2000000 in
theorem passOn_loop {d : Nat} {Q : Option ra_V → ra_M → Prop} {K : Nat → ra_L → List ra_V → ra_M → Prop} (hK : ra_Clo (Ex d) m_X3_passOn cX3_passOn Q K) {S : Sc} (hS : okSc S) {M0 : ra_M} {c0 : Int → Int}
    (hQ : ∀ (M2 : ra_M), M2 17 = rep ((El S).map (sk1 S)) 61 c0 → frX [17] M0 M2 → Q none M2) :
    ∀ (n r : Nat) (M : ra_M) (ch : Int), r + n = 61 → scC M = S → (ch = 0 ∨ ch = 1) → NxL M (El S) → M 17 = rep ((El S).map (sk1 S)) r c0 → frX [17] M0 M → (ch = 0 → rnd ((El S).map (sk1 S)) (rep ((El S).map (sk1 S)) r c0) = rep ((El S).map (sk1 S)) r c0) → (∀ j, 0 ≤ j → j ≤ S 0 0 → 0 ≤ M 17 j ∧ M 17 j ≤ NV) → K 35 [some (vR 15), some (vI ch), some (vI (r : Nat))] [] M := by
  intro n
  induction n with
  | zero =>
    intro r M ch hi hs hch hn hc hf h0 hr
    refine k_iln hK (q := 36)  dX3_passOn_35 rfl (z := (r : Nat)) rfl (k_bp hK (q := 38)  dX3_passOn_36 rfl (by decide) ?_)
    refine k_cge hK (q := 41) (t := 56) dX3_passOn_38 rfl rfl (fun h38 => ?_) (fun h38 => ?_)
    · refine k_vr hK dX3_passOn_56 rfl ?_
      exact hQ M (by rw [hc, show r = 61 by omega]) hf
    · exact absurd h38 (by omega)
  | succ n ih =>
    intro r M ch hi hs hch hn hc hf h0 hr
    refine k_iln hK (q := 36)  dX3_passOn_35 rfl (z := (r : Nat)) rfl (k_bp hK (q := 38)  dX3_passOn_36 rfl (by decide) ?_)
    refine k_cge hK (q := 41) (t := 56) dX3_passOn_38 rfl rfl (fun h38 => ?_) (fun h38 => ?_)
    · exact absurd h38 (by omega)
    · refine k_iln hK (q := 42)  dX3_passOn_41 rfl (z := ch) rfl ?_
      refine k_ifeq hK (q := 45) (t := 56) dX3_passOn_42 rfl rfl (fun h42 => ?_) (fun h42 => ?_)
      · refine k_vr hK dX3_passOn_56 rfl ?_
        exact hQ M (by rw [hc]; exact (bf_any (okE_sk hS (fun e he => Eu_sub S _ e he)) c0 (h0 h42))) hf
      · refine k_aln hK (q := 46)  dX3_passOn_45 rfl (z := 15) rfl ?_
        refine k_iv0 hK (q := 49) dX3_passOn_46 rfl rm_X3_62 rfl rfl (Nat.le_of_ble_eq_true rfl) (xc_passOnce _ M S hs hS hn hr) (fun r9 M5 h9 => ?_)
        obtain ⟨ch2, rfl, hch2, hc5, hf5, h05⟩ := h9
        show K 49 [some (vR 15), some (vI ch), some (vI (r : Nat))] [vI ch2] M5
        refine k_isn hK (q := 50)  dX3_passOn_49 rfl (L2 := [some (vR 15), some (vI ch2), some (vI (r : Nat))]) (Nat.le_of_ble_eq_true rfl) rfl (k_inc hK (q := 53)  dX3_passOn_50 rfl (y := (r : Nat) + 1) (L2 := [some (vR 15), some (vI ch2), some (vI ((r : Nat) + 1))]) rfl rfl (by omega) rfl (k_goto hK (t := 35) dX3_passOn_53 rfl ?_))
        refine ih (r + 1) M5 ch2 (by omega) (by rw [scC_fr (frX_S hf5 (by decide))]; exact hs) hch2 (NxL_fr hn (hf5 10 (by decide)) (hf5 11 (by decide)) (hf5 12 (by decide)) (hf5 13 (by decide))) (by rw [rep_succ, ← hc]; exact hc5) (frX_trans hf hf5) (fun q => by rw [rep_succ, ← hc, ← hc5, h05 q, ← hc5, h05 q]) (fun j a b => ?_)
        have h6 := hr j a b
        rw [hc5]
        exact ⟨rnd_nn (fun e he => (sk_ok hS (fun f hf => Eu_sub S _ f hf) e he).2.2.1) (fun e he => (sk_pn hS e he).1) (fun j hj => (hr j hj.1 hj.2).1) j ⟨a, b⟩, by have := rnd_le ((El S).map (sk1 S)) (M 17) j; omega⟩

set_option maxRecDepth 20000 in
set_option maxHeartbeats 2000000 in
theorem xc_passOn (d : Nat) (M : ra_M) (S : Sc) (hs : scC M = S) (hS : okSc S) (hn : NxL M (El S)) (hr : ∀ j, 0 ≤ j → j ≤ S 0 0 → 0 ≤ M 16 j ∧ M 16 j ≤ NV) : Ex (d + 1) m_X3_passOn [vR 15] M (fun r M2 => r = none ∧ ∃ c0 : Int → Int, (∀ j, 0 ≤ j → j ≤ S 0 0 → c0 j = M 16 j) ∧ M2 17 = rep ((El S).map (sk1 S)) 61 c0 ∧ frX [17] M M2) := by
  refine Ex_call (Nat.le_of_ble_eq_true rfl) (fun K hK => ?_)
  show K 0 [some (vR 15), none, none] [] M
  have hK : ra_Clo _ m_X3_passOn cX3_passOn _ K := hK
  obtain ⟨e5, e6, e7, e8, e9⟩ := scC_e hs
  have hs0 := hS.1
  have J31 : ∀ (M1 : ra_M), (∀ t : Nat, (t : Int) ≤ S 0 0 → M1 17 (t : Nat) = M 16 (t : Nat)) → frX [17] M M1 → ∀ z, K 31 [some (vR 15), some (vI z), none] [] M1 := by
    intro M1 hc hf z
    refine k_ic hK (q := 32)  dX3_passOn_31 rfl (by decide) (k_isn hK (q := 33)  dX3_passOn_32 rfl (L2 := [some (vR 15), some (vI 1), none]) (Nat.le_of_ble_eq_true rfl) rfl (k_ic hK (q := 34)  dX3_passOn_33 rfl (by decide) (k_isn hK (q := 35)  dX3_passOn_34 rfl (L2 := [some (vR 15), some (vI 1), some (vI 0)]) (Nat.le_of_ble_eq_true rfl) rfl ?_)))
    exact passOn_loop hK hS (M0 := M) (c0 := M1 17) (fun M2 h1 h2 => ⟨rfl, M1 17, fun j a b => by have := hc j.toNat (by omega); rw [show ((j.toNat : Nat) : Int) = j by omega] at this; exact this, h1, h2⟩) 61 0 M1 1 (by omega) (by rw [scC_fr (frX_S hf (by decide))]; exact hs) (Or.inr rfl) (NxL_fr hn (hf 10 (by decide)) (hf 11 (by decide)) (hf 12 (by decide)) (hf 13 (by decide))) rfl hf (fun q => by omega) (fun j a b => by have := hc j.toNat (by omega); rw [show ((j.toNat : Nat) : Int) = j by omega] at this; rw [this]; exact hr j a b)
  refine k_ic hK (q := 1)  dX3_passOn_0 rfl (by decide) (k_isn hK (q := 2)  dX3_passOn_1 rfl (L2 := [some (vR 15), some (vI 0), none]) (Nat.le_of_ble_eq_true rfl) rfl ?_)
  exact passOn_copy hK hS.1 J31 ((S 0 0).toNat + 1) 0 M (by omega) e5 (fun t ht => by omega) (frX_refl _ _)
