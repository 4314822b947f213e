/-! THE BEST is walked, in the class -/
/-- where the COURSE stands ahead of STEP i: (EVENT, place) -/
def ps (S : Sc) (hp : Int → Int) (R : Int → Int → Int) : Nat → Int × Int
  | 0 => (0, -1)
  | i + 1 => (if (opt S hp R (ps S hp R i).1 (ps S hp R i).2).1 = 2 then (ps S hp R i).1 else (ps S hp R i).1 + 1, (opt S hp R (ps S hp R i).1 (ps S hp R i).2).2.1)
def sp (S : Sc) (hp : Int → Int) (R : Int → Int → Int) (i : Nat) : St4 := opt S hp R (ps S hp R i).1 (ps S hp R i).2
def gn (S : Sc) (hp : Int → Int) (R : Int → Int → Int) (n : Nat) : List St4 := (List.range n).map (sp S hp R)
theorem gn_len (S : Sc) (hp : Int → Int) (R : Int → Int → Int) (n : Nat) : (gn S hp R n).length = n := by simp [gn]
theorem gn_succ (S : Sc) (hp : Int → Int) (R : Int → Int → Int) (n : Nat) : gn S hp R (n + 1) = gn S hp R n ++ [sp S hp R n] := by simp [gn, List.range_succ]
theorem gn_get (S : Sc) (hp : Int → Int) (R : Int → Int → Int) {n i : Nat} (h : i < n) : (gn S hp R n)[i]? = some (sp S hp R i) := by simp [gn, h]
theorem ps_mono1 (S : Sc) (hp : Int → Int) (R : Int → Int → Int) (i : Nat) : (ps S hp R i).1 ≤ (ps S hp R (i + 1)).1 := by
  simp only [ps]
  split <;> omega
theorem ps_mono (S : Sc) (hp : Int → Int) (R : Int → Int → Int) {i j : Nat} (h : i ≤ j) : (ps S hp R i).1 ≤ (ps S hp R j).1 := by
  induction h with
  | refl => exact Int.le_refl _
  | step _ ih => exact Int.le_trans ih (ps_mono1 S hp R _)
theorem ps_nn (S : Sc) (hp : Int → Int) (R : Int → Int → Int) (i : Nat) : 0 ≤ (ps S hp R i).1 := ps_mono S hp R (Nat.zero_le i)
theorem wk_gn {S : Sc} {hp : Int → Int} {R : Int → Int → Int} {cnt : Int} {N : Nat} : ∀ k : Nat, k ≤ N → (∀ i : Nat, i < k → (ps S hp R i).1 < cnt) → wk S hp R cnt N 0 (-1) = gn S hp R k ++ wk S hp R cnt (N - k) (ps S hp R k).1 (ps S hp R k).2 := by
  intro k
  induction k with
  | zero => intro _ _; simp [gn, ps]
  | succ k ih =>
    intro hk h
    rw [ih (by omega) (fun i hi => h i (by omega)), gn_succ, List.append_assoc, show N - k = (N - (k + 1)) + 1 by omega]
    congr 1
    have h1 := h k (by omega)
    simp only [wk]
    rw [if_neg (by omega)]
    rfl
theorem wk_end {S : Sc} {hp : Int → Int} {R : Int → Int → Int} {cnt : Int} {N k : Nat} (hk : k ≤ N) (h : ∀ i : Nat, i < k → (ps S hp R i).1 < cnt) (he : (ps S hp R k).1 = cnt) : wk S hp R cnt N 0 (-1) = gn S hp R k := by
  rw [wk_gn k hk h, he]
  have : wk S hp R cnt (N - k) cnt (ps S hp R k).2 = [] := by
    cases N - k with
    | zero => rfl
    | succ n => simp [wk]
  rw [this, List.append_nil]
/-- each place of the COURSE is one -/
theorem ps_vp {S : Sc} (hS : okSc S) {hp : Int → Int} {R : Int → Int → Int} {cnt : Int} (hR : isR S hp cnt R) : ∀ k : Nat, (∀ i : Nat, i < k → (ps S hp R i).1 < cnt) → vp S (ps S hp R k).2 := by
  intro k
  induction k with
  | zero => intro _; exact Or.inl rfl
  | succ k ih =>
    intro h
    have hv := ih (fun i hi => h i (by omega))
    have hT := opt_ok hS hv (hR.2 _ (ps_nn S hp R k) (h k (by omega)) _ hv)
    rcases hT with h | h
    · exact Or.inr h.2.1
    · exact h.2.1

set_option maxRecDepth 20000 in
set_option maxHeartbeats 2000000 in
theorem wt_loop {d : Nat} {Q : Option ra_V → ra_M → Prop} {K : Nat → ra_L → List ra_V → ra_M → Prop} (hK : ra_Clo (Ex (d + 4)) m_X1_walkThrough cX1_walkThrough Q K) {S : Sc} (hS : okSc S) {M0 : ra_M} {cnt e fr : Int} (hcnt : 0 ≤ cnt ∧ cnt ≤ 120) (he : 0 ≤ e ∧ e < cnt) (hR : isR S (M0 8) cnt (T23 M0)) (hrr : ∀ e2 p2, 0 ≤ e2 → e2 ≤ cnt → vp S p2 → 0 ≤ M0 22 (e2 * 61 + p2 + 1) ∧ M0 22 (e2 * 61 + p2 + 1) ≤ 200000) {k0 : Nat} {AA BB : Int → Int}
    (hQ : ∀ (M : ra_M) (k : Nat) (p : Int), WS S (M0 8) M (gn S (M0 8) (T23 M0) k) (e + 1) → ps S (M0 8) (T23 M0) k = (e + 1, p) → (∀ j : Nat, j < k → (ps S (M0 8) (T23 M0) j).1 < e + 1) → frW M0 M → (k : Int) ≤ 61 * (e + 1) → k0 < k → (M 23 = AA ∧ M 24 = BB) → Q (some (vI p)) M) :
    ∀ (n i : Nat) (M : ra_M) (k : Nat) (p : Int), i + n = 61 → scC M = S → NxA M S → frW M0 M → WS S (M0 8) M (gn S (M0 8) (T23 M0) k) e → ps S (M0 8) (T23 M0) k = (e, p) → (∀ j : Nat, j < k → (ps S (M0 8) (T23 M0) j).1 < e + 1) → mu S (T23 M0) e p + i ≤ 60 → ((k : Int) ≤ 61 * e + i ∧ k0 ≤ k) → (M 23 = AA ∧ M 24 = BB) → K 5 [some (vR 21), some (vI e), some (vI fr), some (vI p), some (vI (i : Nat))] [] M := by
  intro n
  induction n with
  | zero =>
    intro i M k p hi hs hA hf hw hps hlt hmu hk hAB
    exact absurd hmu (by omega)
  | succ n ih =>
    intro i M k p hi hs hA hf hw hps hlt hmu hk hAB
    have h8 : M 8 = M0 8 := hf.1 8 (by decide)
    have h23 : T23 M = T23 M0 := by unfold T23; rw [hf.1 22 (by decide)]
    have hv : vp S p := by have := ps_vp hS hR k (fun j hj => by have := hlt j hj; omega); rw [hps] at this; exact this
    have hrs := hR.2 e (by omega) (by omega) p hv
    have hrr9 : ∀ e2 p2, e ≤ e2 → e2 ≤ e + 1 → vp S p2 → 0 ≤ M 22 (e2 * 61 + p2 + 1) ∧ M 22 (e2 * 61 + p2 + 1) ≤ 200000 := by
      intro e2 p2 a b v2
      rw [hf.1 22 (by decide)]
      exact hrr e2 p2 (by omega) (by omega) v2
    have hT := opt_ok hS hv hrs
    obtain ⟨s, hso⟩ : ∃ s, s = opt S (M0 8) (T23 M0) e p := ⟨_, rfl⟩
    rw [← hso] at hT
    have hsp : sp S (M0 8) (T23 M0) k = s := by unfold sp; rw [hps, hso]
    have hpn : ps S (M0 8) (T23 M0) (k + 1) = (if s.1 = 2 then e else e + 1, s.2.1) := by simp only [ps]; rw [hps]; simp only; rw [← hso]
    have hgl := hw.1
    rw [gn_len] at hgl
    refine k_il hK (q := 7)  dX1_walkThrough_5 rfl (z := (i : Nat)) rfl (k_bp hK (q := 9)  dX1_walkThrough_7 rfl (by decide) ?_)
    refine k_cge hK (q := 12) (t := 60) dX1_walkThrough_9 rfl rfl (fun h99 => ?_) (fun h99 => ?_)
    · exact absurd h99 (by omega)
    · refine k_aln hK (q := 13)  dX1_walkThrough_12 rfl (z := 21) rfl (k_iln hK (q := 14)  dX1_walkThrough_13 rfl (z := e) rfl (k_iln hK (q := 15)  dX1_walkThrough_14 rfl (z := p) rfl ?_))
      refine k_iv2 hK (q := 18) dX1_walkThrough_15 rfl rm_X1_81 rfl rfl (Nat.le_of_ble_eq_true rfl) (xc_choose _ M e p S hs hS hA (by omega) hv hrr9 (by rw [h8, h23]; exact hrs) s (by rw [h8, h23]; exact hso)) (fun r9 M5 h9 => ?_)
      obtain ⟨rfl, hM5⟩ := h9
      have k13 : M5 21 13 = s.1 := by rw [hM5, ch3_13]
      have k14 : M5 21 14 = s.2.1 := by rw [hM5, ch3_14]
      have k12 : M5 21 12 = (k : Nat) := by rw [hM5, ch3_j _ _ _ _ (by decide)]; exact hgl
      have ko : ∀ x, x ≠ 21 → M5 x = M x := fun x hx => by rw [hM5, ch3_o _ _ _ _ hx]
      have kj : ∀ j, j ≤ 12 → M5 21 j = M 21 j := fun j hj => by rw [hM5, ch3_j _ _ _ _ hj]
      show K 18 [some (vR 21), some (vI e), some (vI fr), some (vI p), some (vI (i : Nat))] [] M5
      refine k_aln hK (q := 19)  dX1_walkThrough_18 rfl (z := 21) rfl (k_gI hK (q := 22) (z := M5 21 14) 0 dX1_walkThrough_19 rfl rf_X1_85 rfl rfl rfl rfl ?_)
      rw [k14]
      refine k_isn hK (q := 23)  dX1_walkThrough_22 rfl (L2 := [some (vR 21), some (vI e), some (vI fr), some (vI s.2.1), some (vI (i : Nat))]) (Nat.le_of_ble_eq_true rfl) rfl (k_aln hK (q := 24)  dX1_walkThrough_23 rfl (z := 21) rfl (k_dup hK (q := 25)  dX1_walkThrough_24 rfl rfl (k_gI hK (q := 28) (z := M5 21 12) 0 dX1_walkThrough_25 rfl rf_X1_144 rfl rfl rfl rfl ?_)))
      rw [k12]
      refine k_ic hK (q := 29)  dX1_walkThrough_28 rfl (by decide) (k_add hK (q := 30)  dX1_walkThrough_29 rfl (z := (k : Nat) + 1) rfl (by omega) (k_pI hK (q := 33) (M2 := up M5 21 12 ((k : Nat) + 1)) dX1_walkThrough_30 rfl rp_X1_144 rfl rfl rfl (k_aln hK (q := 34)  dX1_walkThrough_33 rfl (z := 21) rfl (k_gI hK (q := 37) (z := M5 21 13) 0 dX1_walkThrough_34 rfl rf_X1_88 rfl rfl rfl rfl ?_))))
      rw [k13]
      refine k_ic hK (q := 38)  dX1_walkThrough_37 rfl (by decide) ?_
      refine k_ceq hK (q := 41) (t := 44) dX1_walkThrough_38 rfl rfl (fun h38 => ?_) (fun h38 => ?_)
      · have hT2 : s.1 = 2 ∧ thr S s.2.1 ∧ s.2.2.1 = -1 ∧ T23 M0 e s.2.1 < T23 M0 e p := by
          rcases hT with h | h
          · exact ⟨h.1, h.2.1, h.2.2.1, h.2.2.2.1⟩
          · exact absurd h.1 (by omega)
        have h60 := thr_lt hS hT2.2.1
        have hin := CA_in hw.2.1 (by rw [gn_len]; omega) h60.1 h60.2
        have k28 : M5 28 = M 28 := ko 28 (by decide)
        refine k_aln hK (q := 45)  dX1_walkThrough_44 rfl (z := 21) rfl (k_gR hK (q := 48) (r := 28) dX1_walkThrough_45 rfl rf_X1_30 rfl rfl (k_iln hK (q := 49)  dX1_walkThrough_48 rfl (z := s.2.1) rfl (k_dup2 hK (q := 50)  dX1_walkThrough_49 rfl rfl rfl (k_ald hK (q := 51)  dX1_walkThrough_50 rfl (y := M5 28 s.2.1) rfl (by omega) rfl (k_ic hK (q := 52)  dX1_walkThrough_51 rfl (by decide) ?_)))))
        refine k_add hK (q := 53)  dX1_walkThrough_52 rfl (z := (M5 28 s.2.1) + 1) rfl (by rw [k28]; omega) (k_ast hK (q := 54)  dX1_walkThrough_53 rfl rfl (by omega) (k_inc hK (q := 57)  dX1_walkThrough_54 rfl (y := (i : Nat) + 1) (L2 := [some (vR 21), some (vI e), some (vI fr), some (vI s.2.1), some (vI ((i : Nat) + 1))]) rfl rfl (by omega) rfl (k_goto hK (t := 5) dX1_walkThrough_57 rfl ?_)))
        have h28i := hT2.2.1
        have hfn : frW M (up (up M5 21 12 ((k : Nat) + 1)) 28 s.2.1 ((M5 28 s.2.1) + 1)) := ⟨fun x hx => by simp only [List.mem_cons, List.not_mem_nil, or_false, not_or] at hx; rw [up_k _ _ _ (by omega), up_k _ _ _ (by omega)]; exact ko x (by omega), fun j hj => by rw [up_k _ _ _ (by decide), up_j _ _ (by omega)]; exact kj j (by omega)⟩
        have hw6 : WS S (M0 8) (up (up M5 21 12 ((k : Nat) + 1)) 28 s.2.1 ((M5 28 s.2.1) + 1)) (gn S (M0 8) (T23 M0) (k + 1)) e := by
          rw [gn_succ, hsp]
          refine WS_pass hw (by rw [up_k _ _ _ (by decide), up_same, hgl]) (by rw [up_k _ _ _ (by decide), up_k _ _ _ (by decide)]; exact ko 25 (by decide)) (by rw [up_k _ _ _ (by decide), up_k _ _ _ (by decide)]; exact ko 26 (by decide)) (by rw [up_k _ _ _ (by decide), up_k _ _ _ (by decide)]; exact ko 27 (by decide)) (fun t => ?_) hT2.1 hT2.2.2.1 (by omega)
          by_cases ht : t = s.2.1
          · rw [if_pos ht, ht, up_same, ko 28 (by decide)]
          · rw [if_neg ht, up_j _ _ ht, up_k _ _ _ (by decide), ko 28 (by decide)]
        rw [if_pos hT2.1] at hpn
        refine ih (i + 1) _ (k + 1) s.2.1 (by omega) (by rw [scC_fr (frX_S hfn.1 (by decide))]; exact hs) (NxA_fr hA (fun t a b => hfn.1 t (by simp; omega))) (frW_trans hf hfn) hw6 hpn (fun j hj => ?_) ?_ (by omega) ⟨by rw [up_k _ _ _ (by decide), up_k _ _ _ (by decide), ko 23 (by decide)]; exact hAB.1, by rw [up_k _ _ _ (by decide), up_k _ _ _ (by decide), ko 24 (by decide)]; exact hAB.2⟩
        · by_cases hjk : j = k
          · subst hjk; rw [hps]; omega
          · exact hlt j (by omega)
        · have := mu_lt hS hT2.2.1 hT2.2.2.2
          omega
      · refine k_goto hK (t := 60) dX1_walkThrough_41 rfl ?_
        have hT3 : (s.1 = 0 ∨ s.1 = 1 ∨ s.1 = 3) ∧ vp S s.2.1 ∧ (s.1 ≠ 1 → thr S s.2.1) ∧ s.2.2.1 = e := by
          rcases hT with h | h
          · exact absurd h.1 (by omega)
          · exact ⟨h.1, h.2.1, h.2.2.1, h.2.2.2.1⟩
        have hfm : frW M (up M5 21 12 ((k : Nat) + 1)) := ⟨fun x hx => by simp only [List.mem_cons, List.not_mem_nil, or_false, not_or] at hx; rw [up_k _ _ _ (by omega)]; exact ko x (by omega), fun j hj => by rw [up_j _ _ (by omega)]; exact kj j (by omega)⟩
        have k13c : (up M5 21 12 ((k : Nat) + 1)) 21 13 = s.1 := by rw [up_j _ _ (by decide)]; exact k13
        have k14c : (up M5 21 12 ((k : Nat) + 1)) 21 14 = s.2.1 := by rw [up_j _ _ (by decide)]; exact k14
        have hca6 : CA S ((up M5 21 12 ((k : Nat) + 1)) 8) (up M5 21 12 ((k : Nat) + 1)) (gn S (M0 8) (T23 M0) k) := by
          intro t a b
          rw [up_k _ _ _ (by decide), up_k _ _ _ (by decide), up_k _ _ _ (by decide), up_k _ _ _ (by decide), ko 8 (by decide), ko 26 (by decide), ko 27 (by decide), ko 28 (by decide), h8]
          exact hw.2.1 t a b
        have hcm6 : CM (up M5 21 12 ((k : Nat) + 1)) (gn S (M0 8) (T23 M0) k) e := by
          intro t a b
          rw [up_k _ _ _ (by decide), ko 25 (by decide)]
          exact hw.2.2.1 t a b
        refine k_aln hK (q := 61)  dX1_walkThrough_60 rfl (z := 21) rfl (k_iln hK (q := 62)  dX1_walkThrough_61 rfl (z := e) rfl ?_)
        refine k_iv1 hK (q := 65) dX1_walkThrough_62 rfl rm_X1_148 rfl rfl (Nat.le_of_ble_eq_true rfl) (xc_match _ (up M5 21 12 ((k : Nat) + 1)) e s.2.2.2 S (by rw [scC_fr (frX_S hfm.1 (by decide))]; exact hs) hS (gn S (M0 8) (T23 M0) k) (by rw [up_same, gn_len]) hca6 hcm6 hw.2.2.2 (by rw [k13c]; omega) (by rw [k13c, k14c]; exact fun q => thr_lt hS (hT3.2.2.1 q)) (by omega) (by rw [gn_len]; omega)) (fun r9 M7 h9 => ?_)
        obtain ⟨rfl, hw7, hf7⟩ := h9
        rw [k13c, k14c] at hw7
        have hse : (s.1, s.2.1, e, s.2.2.2) = s := by have := hT3.2.2.2; rw [← this]
        rw [hse, up_k _ _ _ (by decide), ko 8 (by decide), h8, ← hsp, ← gn_succ] at hw7
        rw [if_neg (by omega)] at hpn
        show K 65 [some (vR 21), some (vI e), some (vI fr), some (vI s.2.1), some (vI (i : Nat))] [] M7
        refine k_iln hK (q := 66)  dX1_walkThrough_65 rfl (z := s.2.1) rfl ?_
        refine k_ir hK dX1_walkThrough_66 rfl ?_
        refine hQ M7 (k + 1) s.2.1 hw7 hpn (fun j hj => ?_) (frW_trans hf (frW_trans hfm ⟨frX_sub hf7 (by decide), fun j hj => by rw [hf7 21 (by decide)]⟩)) (by omega) (by omega) ⟨by rw [hf7 23 (by decide), up_k _ _ _ (by decide), ko 23 (by decide)]; exact hAB.1, by rw [hf7 24 (by decide), up_k _ _ _ (by decide), ko 24 (by decide)]; exact hAB.2⟩
        by_cases hjk : j = k
        · subst hjk; rw [hps]; omega
        · exact hlt j (by omega)

set_option maxRecDepth 20000 in
set_option maxHeartbeats 2000000 in
theorem xc_walkT (d : Nat) (M0 M : ra_M) (e p : Int) (S : Sc) (hs : scC M = S) (hS : okSc S) (cnt : Int) (hcnt : 0 ≤ cnt ∧ cnt ≤ 120) (he : 0 ≤ e ∧ e < cnt) (hR : isR S (M0 8) cnt (T23 M0)) (hrr : ∀ e2 p2, 0 ≤ e2 → e2 ≤ cnt → vp S p2 → 0 ≤ M0 22 (e2 * 61 + p2 + 1) ∧ M0 22 (e2 * 61 + p2 + 1) ≤ 200000) (hA : NxA M S) (hf : frW M0 M) (k : Nat) (hw : WS S (M0 8) M (gn S (M0 8) (T23 M0) k) e) (hps : ps S (M0 8) (T23 M0) k = (e, p)) (hlt : ∀ j : Nat, j < k → (ps S (M0 8) (T23 M0) j).1 < e) (hk : (k : Int) ≤ 61 * e) : Ex (d + 5) m_X1_walkThrough [vR 21, vI e, vI p] M (fun r M2 => ∃ (k2 : Nat) (p2 : Int), r = some (vI p2) ∧ WS S (M0 8) M2 (gn S (M0 8) (T23 M0) k2) (e + 1) ∧ ps S (M0 8) (T23 M0) k2 = (e + 1, p2) ∧ (∀ j : Nat, j < k2 → (ps S (M0 8) (T23 M0) j).1 < e + 1) ∧ frW M0 M2 ∧ (k2 : Int) ≤ 61 * (e + 1) ∧ k < k2 ∧ M2 23 = M 23 ∧ M2 24 = M 24) := by
  refine Ex_call (Nat.le_of_ble_eq_true rfl) (fun K hK => ?_)
  show K 0 [some (vR 21), some (vI e), some (vI p), none, none] [] M
  have hK : ra_Clo _ m_X1_walkThrough cX1_walkThrough _ K := hK
  refine k_iln hK (q := 1)  dX1_walkThrough_0 rfl (z := p) rfl (k_isn hK (q := 2)  dX1_walkThrough_1 rfl (L2 := [some (vR 21), some (vI e), some (vI p), some (vI p), none]) (Nat.le_of_ble_eq_true rfl) rfl (k_ic hK (q := 3)  dX1_walkThrough_2 rfl (by decide) (k_is hK (q := 5)  dX1_walkThrough_3 rfl (L2 := [some (vR 21), some (vI e), some (vI p), some (vI p), some (vI 0)]) (Nat.le_of_ble_eq_true rfl) rfl ?_)))
  exact wt_loop hK hS (M0 := M0) hcnt he hR hrr (k0 := k) (AA := M 23) (BB := M 24) (fun M2 k2 p2 h1 h2 h3 h4 h5 h6 h7 => ⟨k2, p2, rfl, h1, h2, h3, h4, h5, h6, h7⟩) 61 0 M k p (by omega) hs hA hf hw hps (fun j hj => by have := hlt j hj; omega) (by have := mu_le S (T23 M0) e p; omega) ⟨by omega, by omega⟩ ⟨rfl, rfl⟩
