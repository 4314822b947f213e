/-! THE BEST is found and told, in the class -/
/-- where each EVENT of the first e begins -/
def AHD (S : Sc) (hp : Int → Int) (R : Int → Int → Int) (M : ra_M) (e : Int) : Prop := ∀ ev, 0 ≤ ev → ev < e → ∃ a : Nat, M 23 ev = (a : Nat) ∧ ps S hp R a = (ev, M 24 ev) ∧ ∀ j : Nat, j < a → (ps S hp R j).1 < ev
theorem AHD_fr {S : Sc} {hp : Int → Int} {R : Int → Int → Int} {M M2 : ra_M} {e : Int} (h : AHD S hp R M e) (h1 : M2 23 = M 23) (h2 : M2 24 = M 24) : AHD S hp R M2 e := by
  intro ev a b
  rw [h1, h2]
  exact h ev a b
/-- what is kept of THE BEST to tell its STEPS -/
def TL (S : Sc) (hp : Int → Int) (cnt : Int) (M : ra_M) (ls : List St4) : Prop := isR S hp cnt (T23 M) ∧ (∀ e2 p2, 0 ≤ e2 → e2 ≤ cnt → vp S p2 → 0 ≤ M 22 (e2 * 61 + p2 + 1) ∧ M 22 (e2 * 61 + p2 + 1) ≤ 200000) ∧ ls = gn S hp (T23 M) ls.length ∧ (∀ j : Nat, j < ls.length → (ps S hp (T23 M) j).1 < cnt) ∧ AHD S hp (T23 M) M cnt
theorem TL_fr {S : Sc} {hp : Int → Int} {cnt : Int} {M M2 : ra_M} {ls : List St4} (h : TL S hp cnt M ls) (h1 : M2 22 = M 22) (h2 : M2 23 = M 23) (h3 : M2 24 = M 24) : TL S hp cnt M2 ls := by
  have h4 : T23 M2 = T23 M := by unfold T23; rw [h1]
  unfold TL
  rw [h4, h1]
  exact ⟨h.1, h.2.1, h.2.2.1, h.2.2.2.1, AHD_fr h.2.2.2.2 h2 h3⟩

set_option maxRecDepth 20000 in
set_option maxHeartbeats 2000000 in
theorem walk_loop {d : Nat} {Q : Option ra_V → ra_M → Prop} {K : Nat → ra_L → List ra_V → ra_M → Prop} (hK : ra_Clo (Ex (d + 5)) m_X1_walk cX1_walk Q K) {S : Sc} (hS : okSc S) {M0 : ra_M} {cnt : Int} (hcnt : 0 ≤ cnt ∧ cnt ≤ 120) (hs0 : scC M0 = S) (hA0 : 0 < cnt → NxA M0 S) (h72 : M0 7 2 = cnt) (hR : isR S (M0 8) cnt (T23 M0)) (hrr : ∀ e2 p2, 0 ≤ e2 → e2 ≤ cnt → vp S p2 → 0 ≤ M0 22 (e2 * 61 + p2 + 1) ∧ M0 22 (e2 * 61 + p2 + 1) ≤ 200000)
    (hQ : ∀ (M : ra_M) (k : Nat) (p : Int), WS S (M0 8) M (gn S (M0 8) (T23 M0) k) cnt → ps S (M0 8) (T23 M0) k = (cnt, p) → (∀ j : Nat, j < k → (ps S (M0 8) (T23 M0) j).1 < cnt) → (k : Int) ≤ 61 * cnt → AHD S (M0 8) (T23 M0) M cnt → frW M0 M → Q none M) :
    ∀ (n : Nat) (M : ra_M) (k : Nat) (p e : Int), e + (n : Nat) = cnt → scC M = S → (0 < cnt → NxA M S) → M 7 2 = cnt → frW M0 M → WS S (M0 8) M (gn S (M0 8) (T23 M0) k) e → ps S (M0 8) (T23 M0) k = (e, p) → (∀ j : Nat, j < k → (ps S (M0 8) (T23 M0) j).1 < e) → (k : Int) ≤ 61 * e → 0 ≤ e → AHD S (M0 8) (T23 M0) M e → K 8 [some (vR 21), some (vI p), some (vI e)] [] M := by
  intro n
  induction n with
  | zero =>
    intro M k p e he hs hA h7 hf hw hps hlt hk he0 hah
    refine k_iln hK (q := 9)  dX1_walk_8 rfl (z := e) rfl (k_aln hK (q := 10)  dX1_walk_9 rfl (z := 21) rfl (k_gR hK (q := 13) (r := 7) dX1_walk_10 rfl rf_X1_41 rfl rfl (k_gI hK (q := 16) (z := M 7 2) 0 dX1_walk_13 rfl rf_X1_51 rfl rfl rfl rfl ?_)))
    refine k_cge hK (q := 19) (t := 49) dX1_walk_16 rfl rfl (fun h16 => ?_) (fun h16 => ?_)
    · refine k_vr hK dX1_walk_49 rfl ?_
      have hee : e = cnt := by omega
      subst hee
      exact hQ M k p hw hps hlt hk hah hf
    · exact absurd h16 (by omega)
  | succ n ih =>
    intro M k p e he hs hA h7 hf hw hps hlt hk he0 hah
    have hgl := hw.1
    rw [gn_len] at hgl
    refine k_iln hK (q := 9)  dX1_walk_8 rfl (z := e) rfl (k_aln hK (q := 10)  dX1_walk_9 rfl (z := 21) rfl (k_gR hK (q := 13) (r := 7) dX1_walk_10 rfl rf_X1_41 rfl rfl (k_gI hK (q := 16) (z := M 7 2) 0 dX1_walk_13 rfl rf_X1_51 rfl rfl rfl rfl ?_)))
    refine k_cge hK (q := 19) (t := 49) dX1_walk_16 rfl rfl (fun h16 => ?_) (fun h16 => ?_)
    · exact absurd h16 (by omega)
    · refine k_aln hK (q := 20)  dX1_walk_19 rfl (z := 21) rfl (k_gR hK (q := 23) (r := 23) dX1_walk_20 rfl rf_X1_15 rfl rfl (k_iln hK (q := 24)  dX1_walk_23 rfl (z := e) rfl (k_aln hK (q := 25)  dX1_walk_24 rfl (z := 21) rfl (k_gI hK (q := 28) (z := M 21 12) 0 dX1_walk_25 rfl rf_X1_144 rfl rfl rfl rfl (k_ast hK (q := 29)  dX1_walk_28 rfl rfl (by omega) ?_)))))
      refine k_aln hK (q := 30)  dX1_walk_29 rfl (z := 21) rfl (k_gR hK (q := 33) (r := 24) dX1_walk_30 rfl rf_X1_18 rfl rfl (k_iln hK (q := 34)  dX1_walk_33 rfl (z := e) rfl (k_iln hK (q := 35)  dX1_walk_34 rfl (z := p) rfl (k_ast hK (q := 36)  dX1_walk_35 rfl rfl (by omega) ?_))))
      have hfm : frW M0 (up (up M 23 e (M 21 12)) 24 e p) := ⟨fun x hx => by have hx2 := hx; simp only [List.mem_cons, List.not_mem_nil, or_false, not_or] at hx2; rw [up_k _ _ _ (by omega), up_k _ _ _ (by omega)]; exact hf.1 x hx, fun j hj => by rw [up_k _ _ _ (by decide), up_k _ _ _ (by decide)]; exact hf.2 j hj⟩
      refine k_aln hK (q := 37)  dX1_walk_36 rfl (z := 21) rfl (k_iln hK (q := 38)  dX1_walk_37 rfl (z := e) rfl (k_iln hK (q := 39)  dX1_walk_38 rfl (z := p) rfl ?_))
      refine k_iv2 hK (q := 42) dX1_walk_39 rfl rm_X1_145 rfl rfl (Nat.le_of_ble_eq_true rfl) (xc_walkT _ M0 (up (up M 23 e (M 21 12)) 24 e p) e p S (by rw [scC_fr (frX_S hfm.1 (by decide))]; exact hs0) hS cnt hcnt (by omega) hR hrr (NxA_fr (hA0 (by omega)) (fun t a b => hfm.1 t (by simp; omega))) hfm k (WS_fr hw (fun x a b => by rw [up_k _ _ _ (by omega), up_k _ _ _ (by omega)]) (by rw [up_k _ _ _ (by decide), up_k _ _ _ (by decide)])) hps hlt hk) (fun r9 M5 h9 => ?_)
      obtain ⟨k5, p5, rfl, hw5, hp5, hl5, hf5, hk5, hkk, h235, h245⟩ := h9
      show K 42 [some (vR 21), some (vI p), some (vI e)] [vI p5] M5
      refine k_isn hK (q := 43)  dX1_walk_42 rfl (L2 := [some (vR 21), some (vI p5), some (vI e)]) (Nat.le_of_ble_eq_true rfl) rfl (k_inc hK (q := 46)  dX1_walk_43 rfl (y := e + 1) (L2 := [some (vR 21), some (vI p5), some (vI (e + 1))]) rfl rfl (by omega) rfl (k_goto hK (t := 8) dX1_walk_46 rfl ?_))
      refine ih M5 k5 p5 (e + 1) (by omega) (by rw [scC_fr (frX_S hf5.1 (by decide))]; exact hs0) (fun q => NxA_fr (hA0 q) (fun t a b => hf5.1 t (by simp; omega))) (by rw [hf5.1 7 (by decide)]; exact h72) hf5 hw5 hp5 hl5 hk5 (by omega) (fun ev a b => ?_)
      by_cases hev : ev = e
      · subst hev
        refine ⟨k, ?_, ?_, hlt⟩
        · rw [h235, up_k _ _ _ (by decide), up_same, hgl]
        · rw [h245, up_same]; exact hps
      · obtain ⟨a9, x1, x2, x3⟩ := hah ev a (by omega)
        refine ⟨a9, ?_, ?_, x3⟩
        · rw [h235, up_k _ _ _ (by decide), up_j _ _ hev]; exact x1
        · rw [h245, up_j _ _ hev, up_k _ _ _ (by decide)]; exact x2

set_option maxRecDepth 20000 in
set_option maxHeartbeats 2000000 in
theorem xc_walk (d : Nat) (M : ra_M) (S : Sc) (hs : scC M = S) (hS : okSc S) (cnt : Int) (hcnt : 0 ≤ cnt ∧ cnt ≤ 120) (h72 : M 7 2 = cnt) (hA : 0 < cnt → NxA M S) (hR : isR S (M 8) cnt (T23 M)) (hrr : ∀ e2 p2, 0 ≤ e2 → e2 ≤ cnt → vp S p2 → 0 ≤ M 22 (e2 * 61 + p2 + 1) ∧ M 22 (e2 * 61 + p2 + 1) ≤ 200000) : Ex (d + 6) m_X1_walk [vR 21] M (fun r M2 => r = none ∧ (∃ k : Nat, WS S (M 8) M2 (gn S (M 8) (T23 M) k) cnt ∧ (∀ j : Nat, j < k → (ps S (M 8) (T23 M) j).1 < cnt) ∧ wk S (M 8) (T23 M) cnt 7320 0 (-1) = gn S (M 8) (T23 M) k ∧ AHD S (M 8) (T23 M) M2 cnt) ∧ frW M M2) := by
  refine Ex_call (Nat.le_of_ble_eq_true rfl) (fun K hK => ?_)
  show K 0 [some (vR 21), none, none] [] M
  have hK : ra_Clo _ m_X1_walk cX1_walk _ K := hK
  refine k_aln hK (q := 1)  dX1_walk_0 rfl (z := 21) rfl ?_
  refine k_iv0 hK (q := 4) dX1_walk_1 rfl rm_X1_141 rfl rfl (Nat.le_of_ble_eq_true rfl) (xc_forgetC _ M) (fun r9 M5 h9 => ?_)
  obtain ⟨rfl, hz5, h125, hf5⟩ := h9
  show K 4 [some (vR 21), none, none] [] M5
  refine k_ic hK (q := 5)  dX1_walk_4 rfl (by decide) (k_isn hK (q := 6)  dX1_walk_5 rfl (L2 := [some (vR 21), some (vI (-1)), none]) (Nat.le_of_ble_eq_true rfl) rfl (k_ic hK (q := 7)  dX1_walk_6 rfl (by decide) (k_isn hK (q := 8)  dX1_walk_7 rfl (L2 := [some (vR 21), some (vI (-1)), some (vI 0)]) (Nat.le_of_ble_eq_true rfl) rfl ?_)))
  refine walk_loop hK hS (M0 := M) hcnt hs hA h72 hR hrr (fun M2 k p h1 h2 h3 h4 h5 h6 => ⟨rfl, ⟨k, h1, h3, wk_end (by omega) h3 (by rw [h2]), h5⟩, h6⟩) cnt.toNat M5 0 (-1) 0 (by omega) (by rw [scC_fr (frX_S hf5.1 (by decide))]; exact hs) (fun q => NxA_fr (hA q) (fun t a b => hf5.1 t (by simp; omega))) (by rw [hf5.1 7 (by decide)]; exact h72) hf5 ⟨by rw [h125, gn_len]; rfl, fun n a b => ?_, fun ev a b => by omega, fun s hs9 => by simp [gn] at hs9⟩ rfl (fun j hj => by omega) (by omega) (by omega) (fun ev a b => by omega)
  have := hz5 n a b
  simp [cPl, cRt, cPs, gn, this]

set_option maxRecDepth 20000 in
set_option maxHeartbeats 2000000 in
theorem find_a {C : Nat → List ra_V → ra_M → (Option ra_V → ra_M → Prop) → Prop} {Q : Option ra_V → ra_M → Prop} {K : Nat → ra_L → List ra_V → ra_M → Prop} (hK : ra_Clo C m_X1_find cX1_find Q K) {S : Sc} (hS : okSc S) {M0 : ra_M} {cnt : Int} (hcnt : 0 ≤ cnt ∧ cnt ≤ 120)
    (hX : ∀ M, (∀ j, pn S j → M 22 (cnt * 61 + j) = 0) → frX [22] M0 M → ∀ z, K 37 [some (vR 21), some (vI z)] [] M) :
    ∀ (n i : Nat) (M : ra_M), i + n = (S 0 0).toNat + 1 → scC M = S → M 7 2 = cnt → (∀ t : Nat, t < i → M 22 (cnt * 61 + (t : Nat)) = 0) → frX [22] M0 M → K 2 [some (vR 21), some (vI (i : Nat))] [] M := by
  have hs0 := hS.1
  intro n
  induction n with
  | zero =>
    intro i M hi hs h72 hc hf
    obtain ⟨e5, e6, e7, e8, e9⟩ := scC_e hs
    refine k_iln hK (q := 3)  dX1_find_2 rfl (z := (i : Nat)) rfl (k_aln hK (q := 4)  dX1_find_3 rfl (z := 21) rfl (k_gR hK (q := 7) (r := 1) dX1_find_4 rfl rf_X1_33 rfl rfl (k_gI hK (q := 10) (z := M 1 5) 0 dX1_find_7 rfl rf_X1_45 rfl rfl rfl rfl ?_)))
    refine k_cgt hK (q := 13) (t := 37) dX1_find_10 rfl rfl (fun h10 => ?_) (fun h10 => ?_)
    · exact hX M (fun j hj => by have := hc j.toNat (by omega); rw [show ((j.toNat : Nat) : Int) = j by omega] at this; exact this) hf _
    · exact absurd h10 (by omega)
  | succ n ih =>
    intro i M hi hs h72 hc hf
    obtain ⟨e5, e6, e7, e8, e9⟩ := scC_e hs
    refine k_iln hK (q := 3)  dX1_find_2 rfl (z := (i : Nat)) rfl (k_aln hK (q := 4)  dX1_find_3 rfl (z := 21) rfl (k_gR hK (q := 7) (r := 1) dX1_find_4 rfl rf_X1_33 rfl rfl (k_gI hK (q := 10) (z := M 1 5) 0 dX1_find_7 rfl rf_X1_45 rfl rfl rfl rfl ?_)))
    refine k_cgt hK (q := 13) (t := 37) dX1_find_10 rfl rfl (fun h10 => ?_) (fun h10 => ?_)
    · exact absurd h10 (by omega)
    · refine k_aln hK (q := 14)  dX1_find_13 rfl (z := 21) rfl (k_gR hK (q := 17) (r := 22) dX1_find_14 rfl rf_X1_9 rfl rfl (k_aln hK (q := 18)  dX1_find_17 rfl (z := 21) rfl (k_gR hK (q := 21) (r := 7) dX1_find_18 rfl rf_X1_41 rfl rfl (k_gI hK (q := 24) (z := M 7 2) 0 dX1_find_21 rfl rf_X1_51 rfl rfl rfl rfl (k_bp hK (q := 26)  dX1_find_24 rfl (by decide) ?_)))))
      refine k_mul hK (q := 27)  dX1_find_26 rfl (z := (M 7 2) * 61) rfl (by omega) (k_iln hK (q := 28)  dX1_find_27 rfl (z := (i : Nat)) rfl (k_add hK (q := 29)  dX1_find_28 rfl (z := ((M 7 2) * 61) + (i : Nat)) rfl (by omega) (k_ic hK (q := 30)  dX1_find_29 rfl (by decide) (k_ast hK (q := 31)  dX1_find_30 rfl rfl (by omega) (k_inc hK (q := 34)  dX1_find_31 rfl (y := (i : Nat) + 1) (L2 := [some (vR 21), some (vI ((i : Nat) + 1))]) rfl rfl (by omega) rfl ?_)))))
      refine k_goto hK (t := 2) dX1_find_34 rfl ?_
      refine ih (i + 1) _ (by omega) (by rw [scC_fr (M := M) (frX_S (l := [22]) (frX_up (frX_refl _ _) _ _ (by decide)) (by decide))]; exact hs) (by rw [up_k _ _ _ (by decide)]; exact h72) (fun t ht => ?_) (frX_up hf _ _ (by decide))
      by_cases h : t = i
      · subst h
        rw [h72, up_same]
      · rw [up_j _ _ (by omega)]
        exact hc t (by omega)

/-- rows behind ev are found -/
def FdR (S : Sc) (hp : Int → Int) (cnt : Int) (M : ra_M) (ev : Int) : Prop := (∀ j, pn S j → M 22 (cnt * 61 + j) = 0) ∧ (∀ e, ev < e → 0 ≤ e → e < cnt → ∀ p, vp S p → rs1 S hp (T23 M) e p) ∧ ∀ e j, ev < e → 0 ≤ e → e ≤ cnt → pn S j → 0 ≤ M 22 (e * 61 + j) ∧ M 22 (e * 61 + j) ≤ 1000 * (cnt - e)
theorem rs1_cong {S : Sc} (hS : okSc S) {hp : Int → Int} {R R2 : Int → Int → Int} {e p : Int} (hv : vp S p) (h0 : ∀ p, vp S p → R2 e p = R e p) (h1 : ∀ p, vp S p → R2 (e + 1) p = R (e + 1) p) (h : rs1 S hp R e p) : rs1 S hp R2 e p := by
  obtain ⟨b1, b2, b3, b4, b5⟩ := h
  refine ⟨by rw [h0 p hv, h1 p hv]; exact b1, fun q hq => by rw [h0 p hv, h1 q.1 (Or.inr (nx_mem hS hq).1)]; exact b2 q hq, fun n hn => by rw [h0 p hv, h1 n (Or.inr hn)]; exact b3 n hn, fun q hq => by rw [h0 p hv, h0 q.1 (Or.inr (nx_mem hS hq).1)]; exact b4 q hq, ?_⟩
  rcases b5 with h | ⟨q, hq, h⟩ | ⟨q, hq, h⟩ | ⟨n, hn, h⟩
  · left; rw [h0 p hv, h1 p hv]; exact h
  · right; left; exact ⟨q, hq, by rw [h0 p hv, h1 q.1 (Or.inr (nx_mem hS hq).1)]; exact h⟩
  · right; right; left; exact ⟨q, hq, by rw [h0 p hv, h0 q.1 (Or.inr (nx_mem hS hq).1)]; exact h⟩
  · right; right; right; exact ⟨n, hn, by rw [h0 p hv, h1 n (Or.inr hn)]; exact h⟩
theorem vp_pn {S : Sc} (hS : okSc S) {p : Int} (h : vp S p) : pn S (p + 1) := by
  have := hS.1
  rcases h with h | h
  · exact ⟨by omega, by omega⟩
  · exact ⟨by omega, by omega⟩
theorem bw_nn {S : Sc} (hS : okSc S) {pit : Int} {r1 : Int → Int} (hr : ∀ j, pn S j → 0 ≤ r1 j) : ∀ j, pn S j → 0 ≤ bw S pit r1 j := by
  intro j hj
  have hc := hS.2.2.2.2.2.2.2.1
  have c1 := hc 1 (by omega) (by omega)
  have c4 := hc 4 (by omega) (by omega)
  have hNV : NV = 1000000000 := rfl
  unfold bw
  rcases bw2_of S pit r1 (El S) (fun j => min (lp S pit r1 (S 0 0).toNat) (S 5 1 + r1 j)) j with h | ⟨f, hf, -, h⟩
  · rw [h]
    have h1 := hr j hj
    rcases lp_of S pit r1 (S 0 0).toNat with h2 | ⟨i, h3, h4, h2⟩
    · omega
    · have h5 := hr ((i : Nat) + 1) ⟨by omega, by omega⟩
      have h6 := wr_in hS (i : Nat) pit
      omega
  · rw [h]
    have h1 := El_mem hS hf
    have h2 := wr_in hS f.2.1 pit
    have h3 := hr _ (El_pn hS f hf).2
    omega
theorem bw_le {S : Sc} {pit : Int} {r1 : Int → Int} (j : Int) : bw S pit r1 j ≤ S 5 1 + r1 j := by
  have := bw2_le S pit r1 (El S) (fun j => min (lp S pit r1 (S 0 0).toNat) (S 5 1 + r1 j)) j
  unfold bw
  omega

theorem FdR_step {S : Sc} (hS : okSc S) (hnn : 0 < S 0 0) {cnt ev : Int} {M M5 M6 : ra_M} (hcnt : 0 ≤ cnt ∧ cnt ≤ 120) (hev : 0 ≤ ev ∧ ev < cnt) (hfd : FdR S (M 8) cnt M ev) (ht5 : ∀ j, pn S j → M5 22 (ev * 61 + j) = bw S (M 8 ev) (r23 M (ev + 1)) j) (ho5 : off3 (ev * 61) M M5) (hr6 : r23 M6 ev = rep ((El S).reverse.map (bk S)) 61 (r23 M5 ev)) (ho6 : off3 (ev * 61) M5 M6) : FdR S (M 8) cnt M6 (ev - 1) := by
  have hs0 := hS.1
  have hc := hS.2.2.2.2.2.2.2.1
  have c1 := hc 1 (by omega) (by omega)
  have hoff : ∀ z, (z < ev * 61 ∨ ev * 61 + 61 ≤ z) → M6 22 z = M 22 z := fun z hz => (ho6 z hz).trans (ho5 z hz)
  have hb : ∀ j, pn S j → r23 M6 ev j = rep ((El S).reverse.map (bk S)) 61 (bw S (M 8 ev) (r23 M (ev + 1))) j := by
    intro j hj
    rw [hr6]
    exact rep_congP (P := pn S) (bk_pn hS) 61 _ _ (fun i hi => ht5 i hi) j hj
  have hr1 : ∀ j, pn S j → 0 ≤ r23 M (ev + 1) j ∧ r23 M (ev + 1) j ≤ 1000 * (cnt - (ev + 1)) := fun j hj => hfd.2.2 (ev + 1) j (by omega) (by omega) (by omega) hj
  have hrow : ∀ j, pn S j → 0 ≤ M6 22 (ev * 61 + j) ∧ M6 22 (ev * 61 + j) ≤ 1000 * (cnt - ev) := by
    intro j hj
    have h1 : M6 22 (ev * 61 + j) = _ := hb j hj
    have h2 := rep_nn (P := pn S) (bk_nn hS) (fun f hf => (bk_pn hS f hf).1) 61 (bw S (M 8 ev) (r23 M (ev + 1))) (bw_nn hS (fun i hi => (hr1 i hi).1)) j hj
    have h3 := rep_le ((El S).reverse.map (bk S)) 61 (bw S (M 8 ev) (r23 M (ev + 1))) j
    have h4 := bw_le (S := S) (pit := M 8 ev) (r1 := r23 M (ev + 1)) j
    have h5 := hr1 j hj
    rw [h1]
    omega
  refine ⟨fun j hj => by rw [hoff _ (by omega)]; exact hfd.1 j hj, fun e h1 h2 h3 p hv => ?_, fun e j h1 h2 h3 hj => ?_⟩
  · by_cases he : e = ev
    · subst he
      refine class_rs1 hS hnn (r1 := r23 M (e + 1)) (fun p hv => ?_) (fun p hv => ?_) (fun p hv => ?_) p hv
      · have := vp_pn hS hv
        unfold T23 r23
        rw [hoff _ (by omega), show (e + 1) * 61 + p + 1 = (e + 1) * 61 + (p + 1) by omega]
      · have := hr1 (p + 1) (vp_pn hS hv)
        omega
      · have := hb (p + 1) (vp_pn hS hv)
        rw [← this]
        unfold T23 r23
        rw [show e * 61 + p + 1 = e * 61 + (p + 1) by omega]
    · refine rs1_cong hS hv (fun p hv => ?_) (fun p hv => ?_) (hfd.2.1 e (by omega) h2 h3 p hv)
      · have := vp_pn hS hv
        unfold T23
        rw [hoff _ (by omega)]
      · have := vp_pn hS hv
        unfold T23
        rw [hoff _ (by omega)]
  · by_cases he : e = ev
    · subst he
      exact hrow j hj
    · rw [hoff _ (by omega)]
      exact hfd.2.2 e j (by omega) h2 h3 hj

set_option maxRecDepth 20000 in
set_option maxHeartbeats 2000000 in
theorem find_b {d : Nat} {Q : Option ra_V → ra_M → Prop} {K : Nat → ra_L → List ra_V → ra_M → Prop} (hK : ra_Clo (Ex (d + 2)) m_X1_find cX1_find Q K) {S : Sc} (hS : okSc S) (hnn : 0 < S 0 0) {M0 : ra_M} {cnt : Int} (hcnt : 0 ≤ cnt ∧ cnt ≤ 120)
    (hX : ∀ M, FdR S (M0 8) cnt M (-1) → frX [22] M0 M → ∀ z, K 67 [some (vR 21), some (vI z)] [] M) :
    ∀ (n : Nat) (M : ra_M) (ev : Int), ev = (n : Int) - 1 ∧ ev < cnt → scC M = S → (0 < cnt → NxA M S) → FdR S (M0 8) cnt M ev → frX [22] M0 M → K 47 [some (vR 21), some (vI ev)] [] M := by
  intro n
  induction n with
  | zero =>
    intro M ev hev hs hA hfd hf
    refine k_iln hK (q := 48)  dX1_find_47 rfl (z := ev) rfl ?_
    refine k_iflt hK (q := 51) (t := 67) dX1_find_48 rfl rfl (fun h48 => ?_) (fun h48 => ?_)
    · exact hX M (by rw [show (-1 : Int) = ev by omega]; exact hfd) hf _
    · exact absurd h48 (by omega)
  | succ n ih =>
    intro M ev hev hs hA hfd hf
    have h8e : M 8 = M0 8 := hf 8 (by decide)
    have k1 := hS.2.2.2.2.2.2.2.1 1 (by omega) (by omega)
    refine k_iln hK (q := 48)  dX1_find_47 rfl (z := ev) rfl ?_
    refine k_iflt hK (q := 51) (t := 67) dX1_find_48 rfl rfl (fun h48 => ?_) (fun h48 => ?_)
    · exact absurd h48 (by omega)
    · refine k_aln hK (q := 52)  dX1_find_51 rfl (z := 21) rfl (k_iln hK (q := 53)  dX1_find_52 rfl (z := ev) rfl ?_)
      refine k_iv1 hK (q := 56) dX1_find_53 rfl rm_X1_56 rfl rfl (Nat.le_of_ble_eq_true rfl) (xc_weighT _ M ev S hs hS (hA (by omega)).1 (by omega) (fun j hj => by have := hfd.2.2 (ev + 1) j (by omega) (by omega) (by omega) hj; omega)) (fun r9 M5 h9 => ?_)
      obtain ⟨rfl, ht5, ho5, hf5⟩ := h9
      have hs5 : scC M5 = S := by rw [scC_fr (frX_S hf5 (by decide))]; exact hs
      have hA5 : NxA M5 S := NxA_fr (hA (by omega)) (fun t a b => hf5 t (by simp; omega))
      show K 56 [some (vR 21), some (vI ev)] [] M5
      refine k_aln hK (q := 57)  dX1_find_56 rfl (z := 21) rfl (k_iln hK (q := 58)  dX1_find_57 rfl (z := ev) rfl ?_)
      refine k_iv1 hK (q := 61) dX1_find_58 rfl rm_X1_60 rfl rfl (Nat.le_of_ble_eq_true rfl) (xc_weighP _ M5 ev S hs5 hS hA5.1 (by omega) (fun j hj => by rw [ht5 j hj]; have h1 := bw_nn hS (pit := M 8 ev) (r1 := r23 M (ev + 1)) (fun i hi => (hfd.2.2 (ev + 1) i (by omega) (by omega) (by omega) hi).1) j hj; have h2 := bw_le (S := S) (pit := M 8 ev) (r1 := r23 M (ev + 1)) j; have h3 := hfd.2.2 (ev + 1) j (by omega) (by omega) (by omega) hj; have h4 : r23 M (ev + 1) j = M 22 ((ev + 1) * 61 + j) := rfl; omega)) (fun r9 M6 h9 => ?_)
      obtain ⟨rfl, hr6, ho6, hf6⟩ := h9
      show K 61 [some (vR 21), some (vI ev)] [] M6
      refine k_inc hK (q := 64)  dX1_find_61 rfl (y := ev + (-1)) (L2 := [some (vR 21), some (vI (ev + (-1)))]) rfl rfl (by omega) rfl (k_goto hK (t := 47) dX1_find_64 rfl ?_)
      have h8 : M 8 = M0 8 := hf 8 (by decide)
      rw [← h8] at hfd
      have hfd6 := FdR_step hS hnn hcnt (by omega) hfd ht5 ho5 hr6 ho6
      rw [h8] at hfd6
      exact ih M6 (ev + (-1)) (by omega) (by rw [scC_fr (frX_S hf6 (by decide))]; exact hs5) (fun _ => NxA_fr hA5 (fun t a b => hf6 t (by simp; omega))) hfd6 (frX_trans hf (frX_trans hf5 hf6))

set_option maxRecDepth 20000 in
set_option maxHeartbeats 2000000 in
theorem xc_find (d : Nat) (M : ra_M) (S : Sc) (hs : scC M = S) (hS : okSc S) (cnt : Int) (hcnt : 0 ≤ cnt ∧ cnt ≤ 120) (hnn : 0 < S 0 0) (h72 : M 7 2 = cnt) (hA : 0 < cnt → NxA M S) : Ex (d + 7) m_X1_find [vR 21] M (fun r M2 => r = none ∧ M2 21 10 = 1 ∧ M2 21 11 = T23 M2 0 (-1) ∧ isR S (M 8) cnt (T23 M2) ∧ WS S (M 8) M2 (wk S (M 8) (T23 M2) cnt 7320 0 (-1)) cnt ∧ TL S (M 8) cnt M2 (wk S (M 8) (T23 M2) cnt 7320 0 (-1)) ∧ frX [21, 22, 23, 24, 25, 26, 27, 28] M M2) := by
  refine Ex_call (Nat.le_of_ble_eq_true rfl) (fun K hK => ?_)
  show K 0 [some (vR 21), none] [] M
  have hK : ra_Clo _ m_X1_find cX1_find _ K := hK
  have hs0 := hS.1
  have J67 : ∀ M1, FdR S (M 8) cnt M1 (-1) → frX [22] M M1 → ∀ z, K 67 [some (vR 21), some (vI z)] [] M1 := by
    intro M1 hfd hf1 z
    have hs1 : scC M1 = S := by rw [scC_fr (frX_S hf1 (by decide))]; exact hs
    refine k_aln hK (q := 68)  dX1_find_67 rfl (z := 21) rfl (k_aln hK (q := 69)  dX1_find_68 rfl (z := 21) rfl (k_ic hK (q := 70)  dX1_find_69 rfl (by decide) (k_ic hK (q := 71)  dX1_find_70 rfl (by decide) ?_)))
    refine k_iv2I hK (q := 74) dX1_find_71 rfl rm_X1_63 rfl rfl (Nat.le_of_ble_eq_true rfl) (xc_restAt _ M1 0 (-1) (by omega) (by omega)) ?_
    refine k_pI hK (q := 77) (M2 := up M1 21 11 (M1 22 (0 * 61 + (-1) + 1))) dX1_find_74 rfl rp_X1_67 rfl rfl rfl ?_
    have hT1 : T23 (up M1 21 11 (M1 22 (0 * 61 + (-1) + 1))) = T23 M1 := by unfold T23; rw [up_k _ _ _ (by decide)]
    have h81 : up M1 21 11 (M1 22 (0 * 61 + (-1) + 1)) 8 = M 8 := by rw [up_k _ _ _ (by decide)]; exact hf1 8 (by decide)
    have hR1 : isR S (up M1 21 11 (M1 22 (0 * 61 + (-1) + 1)) 8) cnt (T23 (up M1 21 11 (M1 22 (0 * 61 + (-1) + 1)))) := by
      rw [hT1, h81]
      refine ⟨fun p hv => ?_, fun e a b p hv => hfd.2.1 e (by omega) a b p hv⟩
      have := hfd.1 (p + 1) (vp_pn hS hv)
      unfold T23
      rw [show cnt * 61 + p + 1 = cnt * 61 + (p + 1) by omega]
      exact this
    have hrr1 : ∀ e2 p2, 0 ≤ e2 → e2 ≤ cnt → vp S p2 → 0 ≤ up M1 21 11 (M1 22 (0 * 61 + (-1) + 1)) 22 (e2 * 61 + p2 + 1) ∧ up M1 21 11 (M1 22 (0 * 61 + (-1) + 1)) 22 (e2 * 61 + p2 + 1) ≤ 200000 := by
      intro e2 p2 a c v2
      rw [up_k _ _ _ (by decide), show e2 * 61 + p2 + 1 = e2 * 61 + (p2 + 1) by omega]
      have := hfd.2.2 e2 (p2 + 1) (by omega) a c (vp_pn hS v2)
      omega
    refine k_aln hK (q := 78)  dX1_find_77 rfl (z := 21) rfl ?_
    refine k_iv0 hK (q := 81) dX1_find_78 rfl rm_X1_70 rfl rfl (Nat.le_of_ble_eq_true rfl) (xc_walk _ (up M1 21 11 (M1 22 (0 * 61 + (-1) + 1))) S (by rw [scC_fr (M := M1) (frX_S (l := [21]) (frX_up (frX_refl _ _) _ _ (by decide)) (by decide))]; exact hs1) hS cnt hcnt (by simp [up]; rw [hf1 7 (by decide)]; exact h72) (fun q => NxA_fr (hA q) (fun t a b => by rw [up_k _ _ _ (by omega)]; exact hf1 t (by simp; omega))) hR1 hrr1) (fun r9 M5 h9 => ?_)
    obtain ⟨rfl, ⟨k5, hw5, hl5, hwk5, hah5⟩, hf5⟩ := h9
    show K 81 [some (vR 21), some (vI z)] [] M5
    refine k_aln hK (q := 82)  dX1_find_81 rfl (z := 21) rfl (k_ic hK (q := 83)  dX1_find_82 rfl (by decide) (k_pZ hK (q := 86) (M2 := up M5 21 10 1) dX1_find_83 rfl rp_X1_73 rfl rfl (by decide) rfl ?_))
    refine k_vr hK dX1_find_86 rfl ?_
    have h522 : (up M5 21 10 1) 22 = M1 22 := by rw [up_k _ _ _ (by decide), hf5.1 22 (by decide), up_k _ _ _ (by decide)]
    have h523 : T23 (up M5 21 10 1) = T23 M1 := by unfold T23; rw [h522]
    have hb1 : ∀ e2 p2, 0 ≤ e2 → e2 ≤ cnt → vp S p2 → 0 ≤ M1 22 (e2 * 61 + p2 + 1) ∧ M1 22 (e2 * 61 + p2 + 1) ≤ 200000 := by
      intro e2 p2 a c v2
      have := hrr1 e2 p2 a c v2
      rw [up_k _ _ _ (by decide)] at this
      exact this
    rw [hT1, h81] at hR1 hw5 hl5 hwk5 hah5
    refine ⟨rfl, by simp [up], ?_, ?_, ?_, ?_, ?_⟩
    · rw [h523, up_j _ _ (by decide), hf5.2 11 (by decide), up_same]
      rfl
    · rw [h523]
      exact hR1
    · rw [h523, hwk5]
      exact WS_fr hw5 (fun k a b => up_k _ _ _ (by omega)) (by rw [up_j _ _ (by decide)])
    · unfold TL
      rw [h523, h522, hwk5, gn_len]
      exact ⟨hR1, hb1, rfl, hl5, AHD_fr hah5 (up_k _ _ _ (by decide)) (up_k _ _ _ (by decide))⟩
    · exact frX_up (frX_trans (frX_up (frX_sub hf1 (by decide)) _ _ (by decide)) (frX_sub hf5.1 (by decide))) _ _ (by decide)
  have J37 : ∀ M1, (∀ j, pn S j → M1 22 (cnt * 61 + j) = 0) → frX [22] M M1 → ∀ z, K 37 [some (vR 21), some (vI z)] [] M1 := by
    intro M1 hz hf1 z
    have hs1 : scC M1 = S := by rw [scC_fr (frX_S hf1 (by decide))]; exact hs
    refine k_aln hK (q := 38)  dX1_find_37 rfl (z := 21) rfl (k_gR hK (q := 41) (r := 7) dX1_find_38 rfl rf_X1_41 rfl rfl (k_gI hK (q := 44) (z := M1 7 2) 0 dX1_find_41 rfl rf_X1_51 rfl rfl rfl rfl (k_ic hK (q := 45)  dX1_find_44 rfl (by decide) (k_sub hK (q := 46)  dX1_find_45 rfl (z := (M1 7 2) - 1) rfl (by rw [hf1 7 (by decide)]; omega) ?_))))
    rw [show M1 7 2 - 1 = cnt - 1 by rw [hf1 7 (by decide), h72]]
    refine k_isn hK (q := 47)  dX1_find_46 rfl (L2 := [some (vR 21), some (vI (cnt - 1))]) (Nat.le_of_ble_eq_true rfl) rfl ?_
    exact find_b hK hS hnn (M0 := M) hcnt J67 cnt.toNat M1 (cnt - 1) (by omega) hs1 (fun q => NxA_fr (hA q) (fun t a b => hf1 t (by simp; omega))) ⟨hz, fun e a b c => by omega, fun e j a b c hj => by have h6 : e = cnt := (by omega); subst h6; rw [hz j hj]; omega⟩ hf1
  refine k_ic hK (q := 1)  dX1_find_0 rfl (by decide) (k_isn hK (q := 2)  dX1_find_1 rfl (L2 := [some (vR 21), some (vI 0)]) (Nat.le_of_ble_eq_true rfl) rfl ?_)
  exact find_a hK hS hcnt J37 ((S 0 0).toNat + 1) 0 M (by omega) hs h72 (fun t ht => by omega) (frX_refl _ _)

set_option maxRecDepth 20000 in
set_option maxHeartbeats 2000000 in
theorem eventOf_loop {C : Nat → List ra_V → ra_M → (Option ra_V → ra_M → Prop) → Prop} {Q : Option ra_V → ra_M → Prop} {K : Nat → ra_L → List ra_V → ra_M → Prop} (hK : ra_Clo C m_X1_eventOf cX1_eventOf Q K) {S : Sc} {hp : Int → Int} {M : ra_M} {cnt : Int} (hcnt : 0 ≤ cnt ∧ cnt ≤ 120) {k : Nat} (hah : AHD S hp (T23 M) M cnt)
    (hQ : Q (some (vI (ps S hp (T23 M) k).1)) M) :
    ∀ (n : Nat) (ev : Int), ev = (n : Nat) → (ps S hp (T23 M) k).1 ≤ ev → ev < cnt → K 10 [some (vR 21), some (vI (k : Nat)), some (vI ev)] [] M := by
  intro n
  induction n with
  | zero =>
    intro ev hev hle hlt
    refine k_iln hK (q := 11)  dX1_eventOf_10 rfl (z := ev) rfl ?_
    refine k_ifle hK (q := 14) (t := 32) dX1_eventOf_11 rfl rfl (fun h11 => ?_) (fun h11 => ?_)
    · refine k_ic hK (q := 33)  dX1_eventOf_32 rfl (by decide) ?_
      refine k_ir hK dX1_eventOf_33 rfl ?_
      have hz : (ps S hp (T23 M) k).1 = 0 := by have := ps_nn S hp (T23 M) k; omega
      rw [hz] at hQ
      exact hQ
    · exact absurd h11 (by omega)
  | succ n ih =>
    intro ev hev hle hlt
    obtain ⟨a9, x1, x2, x3⟩ := hah ev (by omega) hlt
    refine k_iln hK (q := 11)  dX1_eventOf_10 rfl (z := ev) rfl ?_
    refine k_ifle hK (q := 14) (t := 32) dX1_eventOf_11 rfl rfl (fun h11 => ?_) (fun h11 => ?_)
    · exact absurd h11 (by omega)
    · refine k_aln hK (q := 15)  dX1_eventOf_14 rfl (z := 21) rfl (k_gR hK (q := 18) (r := 23) dX1_eventOf_15 rfl rf_X1_15 rfl rfl (k_iln hK (q := 19)  dX1_eventOf_18 rfl (z := ev) rfl (k_ald hK (q := 20)  dX1_eventOf_19 rfl (y := M 23 ev) rfl (by omega) rfl ?_)))
      rw [x1]
      refine k_iln hK (q := 21)  dX1_eventOf_20 rfl (z := (k : Nat)) rfl ?_
      refine k_cgt hK (q := 24) (t := 26) dX1_eventOf_21 rfl rfl (fun h21 => ?_) (fun h21 => ?_)
      · refine k_inc hK (q := 29)  dX1_eventOf_26 rfl (y := ev + (-1)) (L2 := [some (vR 21), some (vI (k : Nat)), some (vI (ev + (-1)))]) rfl rfl (by omega) rfl (k_goto hK (t := 10) dX1_eventOf_29 rfl ?_)
        exact ih _ (by omega) (by have := x3 k (by omega); omega) (by omega)
      · refine k_iln hK (q := 25)  dX1_eventOf_24 rfl (z := ev) rfl ?_
        refine k_ir hK dX1_eventOf_25 rfl ?_
        have hz : (ps S hp (T23 M) k).1 = ev := by
          have h1 := ps_mono S hp (T23 M) (i := a9) (j := k) (by omega)
          rw [x2] at h1
          simp only at h1
          omega
        rw [hz] at hQ
        exact hQ

set_option maxRecDepth 20000 in
set_option maxHeartbeats 2000000 in
theorem xc_eventOf (d : Nat) (M : ra_M) (S : Sc) (hp : Int → Int) (cnt : Int) (hcnt : 0 < cnt ∧ cnt ≤ 120) (h72 : M 7 2 = cnt) (k : Nat) (hah : AHD S hp (T23 M) M cnt) (hlt : (ps S hp (T23 M) k).1 < cnt) : Ex d m_X1_eventOf [vR 21, vI (k : Nat)] M (fun r M2 => r = some (vI (ps S hp (T23 M) k).1) ∧ M2 = M) := by
  refine Ex_leaf (Nat.le_of_ble_eq_true rfl) (fun C K hK => ?_)
  show K 0 [some (vR 21), some (vI (k : Nat)), none] [] M
  have hK : ra_Clo _ m_X1_eventOf cX1_eventOf _ K := hK
  refine k_aln hK (q := 1)  dX1_eventOf_0 rfl (z := 21) rfl (k_gR hK (q := 4) (r := 7) dX1_eventOf_1 rfl rf_X1_41 rfl rfl (k_gI hK (q := 7) (z := M 7 2) 0 dX1_eventOf_4 rfl rf_X1_51 rfl rfl rfl rfl (k_ic hK (q := 8)  dX1_eventOf_7 rfl (by decide) (k_sub hK (q := 9)  dX1_eventOf_8 rfl (z := (M 7 2) - 1) rfl (by omega) (k_isn hK (q := 10)  dX1_eventOf_9 rfl (L2 := [some (vR 21), some (vI (k : Nat)), some (vI ((M 7 2) - 1))]) (Nat.le_of_ble_eq_true rfl) rfl ?_)))))
  exact eventOf_loop hK (cnt := cnt) (by omega) hah ⟨rfl, rfl⟩ (cnt - 1).toNat _ (by omega) (by omega) (by omega)

/-- nothing but the chosen STEP differs -/
def frC (M M2 : ra_M) : Prop := (∀ x, x ≠ 21 → M2 x = M x) ∧ ∀ j, j ≤ 12 → M2 21 j = M 21 j

set_option maxRecDepth 20000 in
set_option maxHeartbeats 2000000 in
theorem tell_loop {d : Nat} {Q : Option ra_V → ra_M → Prop} {K : Nat → ra_L → List ra_V → ra_M → Prop} (hK : ra_Clo (Ex (d + 4)) m_X1_tell cX1_tell Q K) {S : Sc} (hS : okSc S) {M0 : ra_M} {cnt e wh : Int} (hcnt : 0 < cnt ∧ cnt ≤ 120) (he : 0 ≤ e ∧ e < cnt) (hs0 : scC M0 = S) (hA0 : NxA M0 S) (hR : isR S (M0 8) cnt (T23 M0)) (hrr : ∀ e2 p2, 0 ≤ e2 → e2 ≤ cnt → vp S p2 → 0 ≤ M0 22 (e2 * 61 + p2 + 1) ∧ M0 22 (e2 * 61 + p2 + 1) ≤ 200000) {k a : Nat} (hk : k ≤ 7320) (hak : a ≤ k) (hev : ∀ j : Nat, a ≤ j → j ≤ k → (ps S (M0 8) (T23 M0) j).1 = e) (hwh : 0 ≤ wh ∧ wh ≤ 3) {s : St4} (hsk : s = sp S (M0 8) (T23 M0) k) (hT : okT S (M0 8) (T23 M0) e (ps S (M0 8) (T23 M0) k).2 s)
    (hQ : ∀ M, frC M0 M → Q (some (vI (if wh = 0 then s.1 else if wh = 1 then s.2.1 else if wh = 2 then s.2.2.1 else s.2.2.2))) M) :
    ∀ (n i : Nat) (M : ra_M) (pl : Int), i + n = k + 1 → a ≤ i → pl = (ps S (M0 8) (T23 M0) i).2 → frC M0 M → (a < i → M 21 13 = (sp S (M0 8) (T23 M0) (i - 1)).1 ∧ M 21 14 = (sp S (M0 8) (T23 M0) (i - 1)).2.1 ∧ M 21 15 = (sp S (M0 8) (T23 M0) (i - 1)).2.2.2) → K 22 [some (vR 21), some (vI (k : Nat)), some (vI wh), some (vI e), some (vI pl), some (vI (i : Nat))] [] M := by
  intro n
  induction n with
  | zero =>
    intro i M pl hi hai hpl hf hst
    obtain ⟨k13, k14, k15⟩ := hst (by omega)
    rw [show i - 1 = k by omega, ← hsk] at k13 k14 k15
    refine k_il hK (q := 24)  dX1_tell_22 rfl (z := (i : Nat)) rfl (k_iln hK (q := 25)  dX1_tell_24 rfl (z := (k : Nat)) rfl ?_)
    refine k_cgt hK (q := 28) (t := 47) dX1_tell_25 rfl rfl (fun h25 => ?_) (fun h25 => ?_)
    · refine k_iln hK (q := 48)  dX1_tell_47 rfl (z := wh) rfl ?_
      refine k_ts hK dX1_tell_48 (fun h48 => ⟨100, rfl, ?_⟩) (fun h48 => ?_)
      · refine k_aln hK (q := 101)  dX1_tell_100 rfl (z := 21) rfl (k_gI hK (q := 104) (z := M 21 15) 0 dX1_tell_101 rfl rf_X1_91 rfl rfl rfl rfl ?_)
        refine k_ir hK dX1_tell_104 rfl ?_
        have hQ := hQ M hf
        rw [show (if wh = 0 then s.1 else if wh = 1 then s.2.1 else if wh = 2 then s.2.2.1 else s.2.2.2) = M 21 15 by rw [if_neg (by omega), if_neg (by omega), if_neg (by omega), ← k15]] at hQ
        exact hQ
      · have h482 : wh = 0 ∨ wh = 1 ∨ wh = 2 := by omega
        rcases h482 with h482 | h482 | h482
        · refine ⟨28, 76, by rw [h482]; rfl, rfl, ?_⟩
          refine k_aln hK (q := 77)  dX1_tell_76 rfl (z := 21) rfl (k_gI hK (q := 80) (z := M 21 13) 0 dX1_tell_77 rfl rf_X1_88 rfl rfl rfl rfl ?_)
          refine k_ir hK dX1_tell_80 rfl ?_
          have hQ := hQ M hf
          rw [show (if wh = 0 then s.1 else if wh = 1 then s.2.1 else if wh = 2 then s.2.2.1 else s.2.2.2) = M 21 13 by rw [if_pos (by omega), ← k13]] at hQ
          exact hQ
        · refine ⟨33, 81, by rw [h482]; rfl, rfl, ?_⟩
          refine k_aln hK (q := 82)  dX1_tell_81 rfl (z := 21) rfl (k_gI hK (q := 85) (z := M 21 14) 0 dX1_tell_82 rfl rf_X1_85 rfl rfl rfl rfl ?_)
          refine k_ir hK dX1_tell_85 rfl ?_
          have hQ := hQ M hf
          rw [show (if wh = 0 then s.1 else if wh = 1 then s.2.1 else if wh = 2 then s.2.2.1 else s.2.2.2) = M 21 14 by rw [if_neg (by omega), if_pos (by omega), ← k14]] at hQ
          exact hQ
        · refine ⟨38, 86, by rw [h482]; rfl, rfl, ?_⟩
          refine k_aln hK (q := 87)  dX1_tell_86 rfl (z := 21) rfl (k_gI hK (q := 90) (z := M 21 13) 0 dX1_tell_87 rfl rf_X1_88 rfl rfl rfl rfl (k_ic hK (q := 91)  dX1_tell_90 rfl (by decide) ?_))
          refine k_cne hK (q := 94) (t := 98) dX1_tell_91 rfl rfl (fun h91 => ?_) (fun h91 => ?_)
          · refine k_iln hK (q := 99)  dX1_tell_98 rfl (z := e) rfl ?_
            refine k_ir hK dX1_tell_99 rfl ?_
            have hQ := hQ M hf
            rw [show (if wh = 0 then s.1 else if wh = 1 then s.2.1 else if wh = 2 then s.2.2.1 else s.2.2.2) = e by rw [if_neg (by omega), if_neg (by omega), if_pos (by omega)]; rcases hT with h | h; (first | exact h.2.2.1 | (exfalso; have := h.1; omega)); (first | exact h.2.2.2.1 | (exfalso; have := h.1; omega))] at hQ
            exact hQ
          · refine k_ic hK (q := 95)  dX1_tell_94 rfl (by decide) (k_goto hK (t := 99) dX1_tell_95 rfl ?_)
            refine k_ir hK dX1_tell_99 rfl ?_
            have hQ := hQ M hf
            rw [show (if wh = 0 then s.1 else if wh = 1 then s.2.1 else if wh = 2 then s.2.2.1 else s.2.2.2) = (-1) by rw [if_neg (by omega), if_neg (by omega), if_pos (by omega)]; rcases hT with h | h; (first | exact h.2.2.1 | (exfalso; have := h.1; omega)); (first | exact h.2.2.2.1 | (exfalso; have := h.1; omega))] at hQ
            exact hQ
    · exact absurd h25 (by omega)
  | succ n ih =>
    intro i M pl hi hai hpl hf hst
    have h8 : M 8 = M0 8 := hf.1 8 (by decide)
    have h23 : T23 M = T23 M0 := by unfold T23; rw [hf.1 22 (by decide)]
    have hs : scC M = S := by rw [scC_fr (fun x a b => hf.1 x (by omega))]; exact hs0
    have hA : NxA M S := NxA_fr hA0 (fun x a b => hf.1 x (by omega))
    have hei := hev i hai (by omega)
    have hv : vp S pl := by rw [hpl]; exact ps_vp hS hR i (fun j hj => by have h1 := ps_mono S (M0 8) (T23 M0) (i := j) (j := i) (by omega); omega)
    have hrs := hR.2 e (by omega) (by omega) pl hv
    have hrr9 : ∀ e2 p2, e ≤ e2 → e2 ≤ e + 1 → vp S p2 → 0 ≤ M 22 (e2 * 61 + p2 + 1) ∧ M 22 (e2 * 61 + p2 + 1) ≤ 200000 := by
      intro e2 p2 a b v2
      rw [hf.1 22 (by decide)]
      exact hrr e2 p2 (by omega) (by omega) v2
    obtain ⟨s9, hso⟩ : ∃ s9, s9 = opt S (M0 8) (T23 M0) e pl := ⟨_, rfl⟩
    have hsp : sp S (M0 8) (T23 M0) i = s9 := by unfold sp; rw [hei, ← hpl, hso]
    have hpn : (ps S (M0 8) (T23 M0) (i + 1)).2 = s9.2.1 := by simp only [ps]; rw [hei, ← hpl, ← hso]
    refine k_il hK (q := 24)  dX1_tell_22 rfl (z := (i : Nat)) rfl (k_iln hK (q := 25)  dX1_tell_24 rfl (z := (k : Nat)) rfl ?_)
    refine k_cgt hK (q := 28) (t := 47) dX1_tell_25 rfl rfl (fun h25 => ?_) (fun h25 => ?_)
    · exact absurd h25 (by omega)
    · refine k_aln hK (q := 29)  dX1_tell_28 rfl (z := 21) rfl (k_iln hK (q := 30)  dX1_tell_29 rfl (z := e) rfl (k_il hK (q := 32)  dX1_tell_30 rfl (z := pl) rfl ?_))
      refine k_iv2 hK (q := 35) dX1_tell_32 rfl rm_X1_81 rfl rfl (Nat.le_of_ble_eq_true rfl) (xc_choose _ M e pl S hs hS hA (by omega) hv hrr9 (by rw [h8, h23]; exact hrs) s9 (by rw [h8, h23]; exact hso)) (fun r9 M5 h9 => ?_)
      obtain ⟨rfl, hM5⟩ := h9
      have k14 : M5 21 14 = s9.2.1 := by rw [hM5, ch3_14]
      show K 35 [some (vR 21), some (vI (k : Nat)), some (vI wh), some (vI e), some (vI pl), some (vI (i : Nat))] [] M5
      refine k_aln hK (q := 36)  dX1_tell_35 rfl (z := 21) rfl (k_gI hK (q := 39) (z := M5 21 14) 0 dX1_tell_36 rfl rf_X1_85 rfl rfl rfl rfl ?_)
      rw [k14]
      refine k_is hK (q := 41)  dX1_tell_39 rfl (L2 := [some (vR 21), some (vI (k : Nat)), some (vI wh), some (vI e), some (vI s9.2.1), some (vI (i : Nat))]) (Nat.le_of_ble_eq_true rfl) rfl (k_inc hK (q := 44)  dX1_tell_41 rfl (y := (i : Nat) + 1) (L2 := [some (vR 21), some (vI (k : Nat)), some (vI wh), some (vI e), some (vI s9.2.1), some (vI ((i : Nat) + 1))]) rfl rfl (by omega) rfl (k_goto hK (t := 22) dX1_tell_44 rfl ?_))
      refine ih (i + 1) M5 s9.2.1 (by omega) (by omega) (by rw [hpn]) ⟨fun x hx => by rw [hM5, ch3_o _ _ _ _ hx]; exact hf.1 x hx, fun j hj => by rw [hM5, ch3_j _ _ _ _ hj]; exact hf.2 j hj⟩ (fun _ => ?_)
      rw [show i + 1 - 1 = i by omega, hsp, hM5, ch3_13, ch3_14, ch3_15]
      exact ⟨rfl, rfl, rfl⟩

set_option maxRecDepth 20000 in
set_option maxHeartbeats 2000000 in
theorem xc_tell (d : Nat) (M : ra_M) (S : Sc) (hs : scC M = S) (hS : okSc S) (cnt : Int) (hcnt : 0 < cnt ∧ cnt ≤ 120) (h72 : M 7 2 = cnt) (hA : NxA M S) (ls : List St4) (hTL : TL S (M 8) cnt M ls) (k : Nat) (wh : Int) (hk : k < ls.length) (hk2 : k ≤ 7320) (hwh : 0 ≤ wh ∧ wh ≤ 3) : Ex (d + 5) m_X1_tell [vR 21, vI (k : Nat), vI wh] M (fun r M2 => r = some (vI (if wh = 0 then (sp S (M 8) (T23 M) k).1 else if wh = 1 then (sp S (M 8) (T23 M) k).2.1 else if wh = 2 then (sp S (M 8) (T23 M) k).2.2.1 else (sp S (M 8) (T23 M) k).2.2.2)) ∧ frC M M2) := by
  refine Ex_call (Nat.le_of_ble_eq_true rfl) (fun K hK => ?_)
  show K 0 [some (vR 21), some (vI (k : Nat)), some (vI wh), none, none, none] [] M
  have hK : ra_Clo _ m_X1_tell cX1_tell _ K := hK
  obtain ⟨hR, hrr, hg, hl, hah⟩ := hTL
  have hlk := hl k hk
  have hnn := ps_nn S (M 8) (T23 M) k
  obtain ⟨a, x1, x2, x3⟩ := hah (ps S (M 8) (T23 M) k).1 hnn hlk
  have hak : a ≤ k := by
    by_cases h : a ≤ k
    · exact h
    · have := x3 k (by omega); omega
  have hev : ∀ j : Nat, a ≤ j → j ≤ k → (ps S (M 8) (T23 M) j).1 = (ps S (M 8) (T23 M) k).1 := by
    intro j h1 h2
    have h3 := ps_mono S (M 8) (T23 M) h1
    have h4 := ps_mono S (M 8) (T23 M) h2
    rw [x2] at h3
    simp only at h3
    omega
  have hv : vp S (ps S (M 8) (T23 M) k).2 := ps_vp hS hR k (fun j hj => hl j (by omega))
  have hT := opt_ok hS hv (hR.2 _ hnn hlk _ hv)
  refine k_aln hK (q := 1)  dX1_tell_0 rfl (z := 21) rfl (k_iln hK (q := 2)  dX1_tell_1 rfl (z := (k : Nat)) rfl ?_)
  refine k_iv1I hK (q := 5) dX1_tell_2 rfl rm_X1_77 rfl rfl (Nat.le_of_ble_eq_true rfl) (xc_eventOf _ M S (M 8) cnt hcnt h72 k hah hlk) ?_
  refine k_isn hK (q := 6)  dX1_tell_5 rfl (L2 := [some (vR 21), some (vI (k : Nat)), some (vI wh), some (vI ((ps S (M 8) (T23 M) k).1)), none, none]) (Nat.le_of_ble_eq_true rfl) rfl (k_aln hK (q := 7)  dX1_tell_6 rfl (z := 21) rfl (k_gR hK (q := 10) (r := 24) dX1_tell_7 rfl rf_X1_18 rfl rfl (k_iln hK (q := 11)  dX1_tell_10 rfl (z := ((ps S (M 8) (T23 M) k).1)) rfl (k_ald hK (q := 12)  dX1_tell_11 rfl (y := M 24 ((ps S (M 8) (T23 M) k).1)) rfl (by omega) rfl (k_is hK (q := 14)  dX1_tell_12 rfl (L2 := [some (vR 21), some (vI (k : Nat)), some (vI wh), some (vI ((ps S (M 8) (T23 M) k).1)), some (vI (M 24 ((ps S (M 8) (T23 M) k).1))), none]) (Nat.le_of_ble_eq_true rfl) rfl ?_)))))
  refine k_aln hK (q := 15)  dX1_tell_14 rfl (z := 21) rfl (k_gR hK (q := 18) (r := 23) dX1_tell_15 rfl rf_X1_15 rfl rfl (k_iln hK (q := 19)  dX1_tell_18 rfl (z := ((ps S (M 8) (T23 M) k).1)) rfl (k_ald hK (q := 20)  dX1_tell_19 rfl (y := M 23 ((ps S (M 8) (T23 M) k).1)) rfl (by omega) rfl ?_)))
  rw [x1]
  refine k_is hK (q := 22)  dX1_tell_20 rfl (L2 := [some (vR 21), some (vI (k : Nat)), some (vI wh), some (vI ((ps S (M 8) (T23 M) k).1)), some (vI (M 24 ((ps S (M 8) (T23 M) k).1))), some (vI (a : Nat))]) (Nat.le_of_ble_eq_true rfl) rfl ?_
  exact tell_loop hK hS (M0 := M) (s := sp S (M 8) (T23 M) k) hcnt ⟨hnn, hlk⟩ hs hA hR hrr hk2 hak hev hwh rfl hT (fun M2 h => ⟨rfl, h⟩) (k + 1 - a) a M _ (by omega) (Nat.le_refl _) (by rw [x2]) ⟨fun _ _ => rfl, fun _ _ => rfl⟩ (fun q => by omega)
