theorem lo1_lw (c : Int → Int) (e : Eg) : lo1 c e = lw c (e.2.1 + 1) (c (e.1 + 1) + e.2.2) := by
  funext j
  unfold lo1 lw
  split
  next h =>
    simp only
    split
    next hj => subst hj; omega
    next => rfl
  next h =>
    split
    next hj => subst hj; omega
    next => rfl
theorem bk_pn {S : Sc} (hS : okSc S) : ∀ e ∈ ((El S).reverse.map (bk S)), pn S (e.1 + 1) ∧ pn S (e.2.1 + 1) := by
  intro e he
  obtain ⟨f, hf, rfl⟩ := List.mem_map.mp he
  have := El_pn hS f (List.mem_reverse.mp hf)
  exact ⟨this.2, this.1⟩
theorem bk_nn {S : Sc} (hS : okSc S) : ∀ e ∈ ((El S).reverse.map (bk S)), 0 ≤ e.2.2 := by
  intro e he
  have := (bkE_ok hS (fun f hf => Eu_sub S _ f (List.mem_reverse.mp hf)) e he).2.2
  omega

set_option maxRecDepth 20000 in
set_option maxHeartbeats 2000000 in
theorem weighP_in {d : Nat} {Q : Option ra_V → ra_M → Prop} {K : Nat → ra_L → List ra_V → ra_M → Prop} (hK : ra_Clo (Ex (d + 1)) m_X1_weighPassing cX1_weighPassing Q K) {S : Sc} (hS : okSc S) {M0 : ra_M} {e r : Int} {c0 : Int → Int} (hev : 0 ≤ e ∧ e < 120)
    (hX : ∀ (M : ra_M) (ch z : Int), scC M = S → (ch = 0 ∨ ch = 1) → NxL M (El S) → r23 M e = rnd ((El S).reverse.map (bk S)) c0 → off3 (e * 61) M0 M → frX [22] M0 M → (ch = 0 → r23 M e = c0) → (∀ j, pn S j → 0 ≤ M 22 (e * 61 + j) ∧ M 22 (e * 61 + j) ≤ 200000) → K 101 [some (vR 21), some (vI e), some (vI ch), some (vI r), some (vI z), none] [] M) :
    ∀ (m : Nat) (M : ra_M) (ch z : Int), m ≤ (El S).length → z = (m : Int) - 1 → scC M = S → (ch = 0 ∨ ch = 1) → NxL M (El S) → r23 M e = rnd (((El S).reverse.map (bk S)).take ((El S).length - m)) c0 → off3 (e * 61) M0 M → frX [22] M0 M → (ch = 0 → r23 M e = c0) → (∀ j, pn S j → 0 ≤ M 22 (e * 61 + j) ∧ M 22 (e * 61 + j) ≤ 200000) → K 27 [some (vR 21), some (vI e), some (vI ch), some (vI r), some (vI z), none] [] M := by
  have hs0 := hS.1
  have hl74 := El_len hS
  intro m
  induction m with
  | zero =>
    intro M ch z hi hz hs hch hn hc ho hf h0 hr
    have en := hn.1
    refine k_il hK (q := 29)  dX1_weighPassing_27 rfl (z := z) rfl ?_
    refine k_iflt hK (q := 32) (t := 101) dX1_weighPassing_29 rfl rfl (fun h29 => ?_) (fun h29 => ?_)
    · have hi2 : (((El S).reverse.map (bk S))).take ((El S).length - 0) = ((El S).reverse.map (bk S)) := List.take_of_length_le (by simp)
      rw [hi2] at hc
      exact hX M ch _ hs hch hn hc ho hf h0 hr
    · exact absurd h29 (by omega)
  | succ m ih =>
    intro M ch z hi hz hs hch hn hc ho hf h0 hr
    have en := hn.1
    obtain ⟨⟨x, y, w⟩, he⟩ : ∃ f : Eg, (El S)[m]? = some f := ⟨_, List.getElem?_eq_getElem (by omega)⟩
    obtain ⟨g11, g12, g13⟩ := hn.2 m _ he
    have hm := El_mem hS (List.mem_of_getElem? he)
    simp only at g11 g12 g13 hm
    have k2 := hS.2.2.2.2.2.2.2.1 2 (by omega) (by omega)
    have htk : (El S).length - m = (El S).length - (m + 1) + 1 := by omega
    have hE : ((El S).reverse.map (bk S))[(El S).length - (m + 1)]? = some (bk S (x, y, w)) := by
      rw [List.getElem?_map, List.getElem?_reverse (by omega), show (El S).length - 1 - ((El S).length - (m + 1)) = m by omega, he]
      rfl
    have hrx := hr (x + 1) ⟨by omega, by omega⟩
    rw [show e * 61 + (x + 1) = e * 61 + x + 1 by omega] at hrx
    have hry := hr (y + 1) ⟨by omega, by omega⟩
    rw [show e * 61 + (y + 1) = e * 61 + y + 1 by omega] at hry
    have hz2 : z = (m : Nat) := by omega
    subst hz2
    refine k_il hK (q := 29)  dX1_weighPassing_27 rfl (z := (m : Nat)) rfl ?_
    refine k_iflt hK (q := 32) (t := 101) dX1_weighPassing_29 rfl rfl (fun h29 => ?_) (fun h29 => ?_)
    · exact absurd h29 (by omega)
    · refine k_aln hK (q := 33)  dX1_weighPassing_32 rfl (z := 21) rfl (k_il hK (q := 35)  dX1_weighPassing_33 rfl (z := (m : Nat)) rfl ?_)
      refine k_iv1I hK (q := 38) dX1_weighPassing_35 rfl rm_X1_138 rfl rfl (Nat.le_of_ble_eq_true rfl) (xc_passPrice _ M S hs hS m x y w hn he) ?_
      refine k_aln hK (q := 39)  dX1_weighPassing_38 rfl (z := 21) rfl (k_iln hK (q := 40)  dX1_weighPassing_39 rfl (z := e) rfl (k_aln hK (q := 41)  dX1_weighPassing_40 rfl (z := 21) rfl (k_gR hK (q := 44) (r := 10) dX1_weighPassing_41 rfl rf_X1_37 rfl rfl (k_gR hK (q := 47) (r := 12) dX1_weighPassing_44 rfl rf_X1_104 rfl rfl (k_il hK (q := 49)  dX1_weighPassing_47 rfl (z := (m : Nat)) rfl ?_)))))
      refine k_ald hK (q := 50)  dX1_weighPassing_49 rfl (y := M 12 (m : Nat)) rfl (by omega) rfl ?_
      rw [g12]
      refine k_iv2I hK (q := 53) dX1_weighPassing_50 rfl rm_X1_63 rfl rfl (Nat.le_of_ble_eq_true rfl) (xc_restAt _ M e y (by omega) (by omega)) ?_
      refine k_add hK (q := 54)  dX1_weighPassing_53 rfl (z := (w + S 5 2) + (M 22 (e * 61 + y + 1))) rfl (by omega) (k_is hK (q := 56)  dX1_weighPassing_54 rfl (L2 := [some (vR 21), some (vI e), some (vI ch), some (vI r), some (vI (m : Nat)), some (vI ((w + S 5 2) + (M 22 (e * 61 + y + 1))))]) (Nat.le_of_ble_eq_true rfl) rfl (k_il hK (q := 58)  dX1_weighPassing_56 rfl (z := ((w + S 5 2) + (M 22 (e * 61 + y + 1)))) rfl (k_aln hK (q := 59)  dX1_weighPassing_58 rfl (z := 21) rfl (k_iln hK (q := 60)  dX1_weighPassing_59 rfl (z := e) rfl (k_aln hK (q := 61)  dX1_weighPassing_60 rfl (z := 21) rfl ?_)))))
      refine k_gR hK (q := 64) (r := 10) dX1_weighPassing_61 rfl rf_X1_37 rfl rfl (k_gR hK (q := 67) (r := 11) dX1_weighPassing_64 rfl rf_X1_131 rfl rfl (k_il hK (q := 69)  dX1_weighPassing_67 rfl (z := (m : Nat)) rfl (k_ald hK (q := 70)  dX1_weighPassing_69 rfl (y := M 11 (m : Nat)) rfl (by omega) rfl ?_)))
      rw [g11]
      refine k_iv2I hK (q := 73) dX1_weighPassing_70 rfl rm_X1_63 rfl rfl (Nat.le_of_ble_eq_true rfl) (xc_restAt _ M e x (by omega) (by omega)) ?_
      refine k_cge hK (q := 76) (t := 95) dX1_weighPassing_73 rfl rfl (fun h73 => ?_) (fun h73 => ?_)
      · refine k_inc hK (q := 98)  dX1_weighPassing_95 rfl (y := (m : Nat) + (-1)) (L2 := [some (vR 21), some (vI e), some (vI ch), some (vI r), some (vI ((m : Nat) + (-1))), some (vI ((w + S 5 2) + (M 22 (e * 61 + y + 1))))]) rfl rfl (by omega) rfl (k_goto hK (t := 27) dX1_weighPassing_98 rfl ?_)
        refine k_weak hK (L2 := [some (vR 21), some (vI e), some (vI ch), some (vI r), some (vI ((m : Nat) + (-1))), none]) ⟨Or.inl rfl, Or.inl rfl, Or.inl rfl, Or.inl rfl, Or.inl rfl, Or.inr rfl, trivial⟩ ?_
        have hno : lo1 (r23 M e) (bk S (x, y, w)) = r23 M e := by
          refine lo1_no (v := w + S 5 2 + M 22 (e * 61 + y + 1)) ?_ ?_
          · simp only [bk]
            unfold r23
            rw [show e * 61 + (y + 1) = e * 61 + y + 1 by omega]
            omega
          · simp only [bk]
            unfold r23
            rw [show e * 61 + (x + 1) = e * 61 + x + 1 by omega]
            omega
        exact ih M ch _ (by omega) (by omega) hs hch hn (by rw [htk, rnd_take hE, ← hc, hno]) ho hf h0 hr
      · refine k_aln hK (q := 77)  dX1_weighPassing_76 rfl (z := 21) rfl (k_iln hK (q := 78)  dX1_weighPassing_77 rfl (z := e) rfl (k_aln hK (q := 79)  dX1_weighPassing_78 rfl (z := 21) rfl (k_gR hK (q := 82) (r := 10) dX1_weighPassing_79 rfl rf_X1_37 rfl rfl (k_gR hK (q := 85) (r := 11) dX1_weighPassing_82 rfl rf_X1_131 rfl rfl (k_il hK (q := 87)  dX1_weighPassing_85 rfl (z := (m : Nat)) rfl ?_)))))
        refine k_ald hK (q := 88)  dX1_weighPassing_87 rfl (y := M 11 (m : Nat)) rfl (by omega) rfl ?_
        rw [g11]
        refine k_il hK (q := 90)  dX1_weighPassing_88 rfl (z := ((w + S 5 2) + (M 22 (e * 61 + y + 1)))) rfl ?_
        refine k_iv3V hK (q := 93) dX1_weighPassing_90 rfl rm_X1_134 rfl rfl (Nat.le_of_ble_eq_true rfl) (xc_lowerRest _ M e x ((w + S 5 2) + (M 22 (e * 61 + y + 1))) (by omega) (by omega)) ?_
        refine k_ic hK (q := 94)  dX1_weighPassing_93 rfl (by decide) (k_isn hK (q := 95)  dX1_weighPassing_94 rfl (L2 := [some (vR 21), some (vI e), some (vI 1), some (vI r), some (vI (m : Nat)), some (vI ((w + S 5 2) + (M 22 (e * 61 + y + 1))))]) (Nat.le_of_ble_eq_true rfl) rfl (k_inc hK (q := 98)  dX1_weighPassing_95 rfl (y := (m : Nat) + (-1)) (L2 := [some (vR 21), some (vI e), some (vI 1), some (vI r), some (vI ((m : Nat) + (-1))), some (vI ((w + S 5 2) + (M 22 (e * 61 + y + 1))))]) rfl rfl (by omega) rfl (k_goto hK (t := 27) dX1_weighPassing_98 rfl ?_)))
        refine k_weak hK (L2 := [some (vR 21), some (vI e), some (vI 1), some (vI r), some (vI ((m : Nat) + (-1))), none]) ⟨Or.inl rfl, Or.inl rfl, Or.inl rfl, Or.inl rfl, Or.inl rfl, Or.inr rfl, trivial⟩ ?_
        have hfu : frX [22] M (up M 22 (e * 61 + x + 1) (min (M 22 (e * 61 + x + 1)) ((w + S 5 2) + (M 22 (e * 61 + y + 1))))) := frX_up (frX_refl _ _) _ _ (by decide)
        have hrow : r23 (up M 22 (e * 61 + x + 1) (min (M 22 (e * 61 + x + 1)) ((w + S 5 2) + (M 22 (e * 61 + y + 1))))) e = lo1 (r23 M e) (bk S (x, y, w)) := by
          rw [r23_lw, lo1_lw]
          simp only [bk]
          congr 1
          unfold r23
          rw [show e * 61 + (y + 1) = e * 61 + y + 1 by omega]
          omega
        refine ih _ 1 _ (by omega) (by omega) (by rw [scC_fr (M := M) (frX_S hfu (by decide))]; exact hs) (Or.inr rfl) (NxL_fr hn (hfu 10 (by decide)) (hfu 11 (by decide)) (hfu 12 (by decide)) (hfu 13 (by decide))) ?_ (off3_up ho (by omega)) (frX_up hf _ _ (by decide)) (fun q => by omega) (fun j hj => ?_)
        · rw [hrow, hc, htk, rnd_take hE]
        · have h5 := hr j hj
          simp only [up]
          split <;> omega

set_option maxRecDepth 20000 in
set_option maxHeartbeats 2000000 in
theorem weighP_out {d : Nat} {Q : Option ra_V → ra_M → Prop} {K : Nat → ra_L → List ra_V → ra_M → Prop} (hK : ra_Clo (Ex (d + 1)) m_X1_weighPassing cX1_weighPassing Q K) {S : Sc} (hS : okSc S) {M0 : ra_M} {e : Int} {c0 : Int → Int} (hev : 0 ≤ e ∧ e < 120)
    (hQ : ∀ (M : ra_M), r23 M e = rep ((El S).reverse.map (bk S)) 61 c0 → off3 (e * 61) M0 M → frX [22] M0 M → Q none M) :
    ∀ (n r : Nat) (M : ra_M) (ch : Int), r + n = 61 → scC M = S → (ch = 0 ∨ ch = 1) → NxL M (El S) → r23 M e = rep ((El S).reverse.map (bk S)) r c0 → off3 (e * 61) M0 M → frX [22] M0 M → (ch = 0 → rnd ((El S).reverse.map (bk S)) (rep ((El S).reverse.map (bk S)) r c0) = rep ((El S).reverse.map (bk S)) r c0) → (∀ j, pn S j → 0 ≤ M 22 (e * 61 + j) ∧ M 22 (e * 61 + j) ≤ 200000) → K 4 [some (vR 21), some (vI e), some (vI ch), some (vI (r : Nat)), none, none] [] M := by
  have hl74 := El_len hS
  intro n
  induction n with
  | zero =>
    intro r M ch hi hs hch hn hc ho hf h0 hr
    refine k_iln hK (q := 5)  dX1_weighPassing_4 rfl (z := (r : Nat)) rfl (k_bp hK (q := 7)  dX1_weighPassing_5 rfl (by decide) ?_)
    refine k_cge hK (q := 10) (t := 107) dX1_weighPassing_7 rfl rfl (fun h7 => ?_) (fun h7 => ?_)
    · refine k_vr hK dX1_weighPassing_107 rfl ?_
      exact hQ M (by rw [hc, show r = 61 by omega]) ho hf
    · exact absurd h7 (by omega)
  | succ n ih =>
    intro r M ch hi hs hch hn hc ho hf h0 hr
    have en := hn.1
    refine k_iln hK (q := 5)  dX1_weighPassing_4 rfl (z := (r : Nat)) rfl (k_bp hK (q := 7)  dX1_weighPassing_5 rfl (by decide) ?_)
    refine k_cge hK (q := 10) (t := 107) dX1_weighPassing_7 rfl rfl (fun h7 => ?_) (fun h7 => ?_)
    · exact absurd h7 (by omega)
    · refine k_iln hK (q := 11)  dX1_weighPassing_10 rfl (z := ch) rfl ?_
      refine k_ifeq hK (q := 14) (t := 107) dX1_weighPassing_11 rfl rfl (fun h11 => ?_) (fun h11 => ?_)
      · refine k_vr hK dX1_weighPassing_107 rfl ?_
        exact hQ M (by rw [hc]; exact (bf_any (bkE_ok hS (fun f hf => Eu_sub S _ f (List.mem_reverse.mp hf))) c0 (h0 h11))) ho hf
      · refine k_ic hK (q := 15)  dX1_weighPassing_14 rfl (by decide) (k_isn hK (q := 16)  dX1_weighPassing_15 rfl (L2 := [some (vR 21), some (vI e), some (vI 0), some (vI (r : Nat)), none, none]) (Nat.le_of_ble_eq_true rfl) rfl (k_aln hK (q := 17)  dX1_weighPassing_16 rfl (z := 21) rfl (k_gR hK (q := 20) (r := 10) dX1_weighPassing_17 rfl rf_X1_37 rfl rfl (k_gI hK (q := 23) (z := M 10 5) 0 dX1_weighPassing_20 rfl rf_X1_127 rfl rfl rfl rfl (k_ic hK (q := 24)  dX1_weighPassing_23 rfl (by decide) ?_)))))
        refine k_sub hK (q := 25)  dX1_weighPassing_24 rfl (z := (M 10 5) - 1) rfl (by omega) (k_is hK (q := 27)  dX1_weighPassing_25 rfl (L2 := [some (vR 21), some (vI e), some (vI 0), some (vI (r : Nat)), some (vI ((M 10 5) - 1)), none]) (Nat.le_of_ble_eq_true rfl) rfl ?_)
        refine weighP_in hK hS (M0 := M) (c0 := r23 M e) hev (fun M5 ch2 z hs5 hch5 hn5 hc5 ho5 hf5 h05 hr5 => ?_) (El S).length M 0 _ (Nat.le_refl _) (by rw [en]) hs (Or.inl rfl) hn (by simp [rnd]) (fun z hz => rfl) (frX_refl _ _) (fun _ => rfl) hr
        refine k_inc hK (q := 104)  dX1_weighPassing_101 rfl (y := (r : Nat) + 1) (L2 := [some (vR 21), some (vI e), some (vI ch2), some (vI ((r : Nat) + 1)), some (vI z), none]) rfl rfl (by omega) rfl (k_goto hK (t := 4) dX1_weighPassing_104 rfl ?_)
        refine k_weak hK (L2 := [some (vR 21), some (vI e), some (vI ch2), some (vI ((r : Nat) + 1)), none, none]) ⟨Or.inl rfl, Or.inl rfl, Or.inl rfl, Or.inl rfl, Or.inr rfl, Or.inr rfl, trivial⟩ ?_
        exact ih (r + 1) M5 ch2 (by omega) hs5 hch5 hn5 (by rw [rep_succ, ← hc]; exact hc5) (off3_trans ho ho5) (frX_trans hf hf5) (fun q => by rw [rep_succ, ← hc, ← hc5, h05 q, ← hc5, h05 q]) hr5

set_option maxRecDepth 20000 in
set_option maxHeartbeats 2000000 in
theorem xc_weighP (d : Nat) (M : ra_M) (e : Int) (S : Sc) (hs : scC M = S) (hS : okSc S) (hn : NxL M (El S)) (hev : 0 ≤ e ∧ e < 120) (hr : ∀ j, pn S j → 0 ≤ M 22 (e * 61 + j) ∧ M 22 (e * 61 + j) ≤ 200000) : Ex (d + 2) m_X1_weighPassing [vR 21, vI e] M (fun r M2 => r = none ∧ r23 M2 e = rep ((El S).reverse.map (bk S)) 61 (r23 M e) ∧ off3 (e * 61) M M2 ∧ frX [22] M M2) := by
  refine Ex_call (Nat.le_of_ble_eq_true rfl) (fun K hK => ?_)
  show K 0 [some (vR 21), some (vI e), none, none, none, none] [] M
  have hK : ra_Clo _ m_X1_weighPassing cX1_weighPassing _ K := hK
  refine k_ic hK (q := 1)  dX1_weighPassing_0 rfl (by decide) (k_isn hK (q := 2)  dX1_weighPassing_1 rfl (L2 := [some (vR 21), some (vI e), some (vI 1), none, none, none]) (Nat.le_of_ble_eq_true rfl) rfl (k_ic hK (q := 3)  dX1_weighPassing_2 rfl (by decide) (k_isn hK (q := 4)  dX1_weighPassing_3 rfl (L2 := [some (vR 21), some (vI e), some (vI 1), some (vI 0), none, none]) (Nat.le_of_ble_eq_true rfl) rfl ?_)))
  exact weighP_out hK hS (M0 := M) (c0 := r23 M e) hev (fun M2 h1 h2 h3 => ⟨rfl, h1, h2, h3⟩) 61 0 M 1 (by omega) hs (Or.inr rfl) hn rfl (fun z hz => rfl) (frX_refl _ _) (fun q => by omega) hr
