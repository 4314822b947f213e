/-! the STEPS, in the class -/
def T23 (M : ra_M) : Int → Int → Int := fun e p => M 22 (e * 61 + p + 1)
/-- the STEP that was chosen last -/
def ch3 (M : ra_M) (k t c : Int) : ra_M := up (up (up M 21 13 k) 21 14 t) 21 15 c
theorem T23_ch3 (M : ra_M) (k t c : Int) : T23 (ch3 M k t c) = T23 M := by unfold T23 ch3; rw [up_k _ _ _ (by decide), up_k _ _ _ (by decide), up_k _ _ _ (by decide)]
theorem ch3_o (M : ra_M) (k t c : Int) {x : Nat} (h : x ≠ 21) : ch3 M k t c x = M x := by unfold ch3; rw [up_k _ _ _ h, up_k _ _ _ h, up_k _ _ _ h]
theorem ch3_j (M : ra_M) (k t c : Int) {j : Int} (h : j ≤ 12) : ch3 M k t c 21 j = M 21 j := by unfold ch3; rw [up_j _ _ (by omega), up_j _ _ (by omega), up_j _ _ (by omega)]
theorem ch3_13 (M : ra_M) (k t c : Int) : ch3 M k t c 21 13 = k := by simp [ch3, up]
theorem ch3_14 (M : ra_M) (k t c : Int) : ch3 M k t c 21 14 = t := by simp [ch3, up]
theorem ch3_15 (M : ra_M) (k t c : Int) : ch3 M k t c 21 15 = c := by simp [ch3, up]
theorem Eu_pre (S : Sc) {n m : Nat} (h : n ≤ m) : ∃ r, Eu S m = Eu S n ++ r := by
  induction h with
  | refl => exact ⟨[], by simp⟩
  | step _ ih => obtain ⟨r, hr⟩ := ih; exact ⟨r ++ _, by simp only [Eu]; rw [hr, List.append_assoc]⟩
theorem Eu_vp {S : Sc} {p : Int} (hv : vp S p) : Eu S ((p + 1).toNat + 1) = Eu S (p + 1).toNat ++ (nx S p).map (fun q => (p, q.1, q.2)) := by
  have h1 : (((p + 1).toNat : Nat) : Int) - 1 = p := by rcases hv with h | h <;> omega
  simp only [Eu]
  rw [h1, if_pos]
  rcases hv with h | h
  · left; omega
  · right; exact h
theorem El_at {S : Sc} (hS : okSc S) {p : Int} (hv : vp S p) {t : Nat} {q : Int × Int} (hq : (nx S p)[t]? = some q) : (El S)[(Eu S (p + 1).toNat).length + t]? = some (p, q.1, q.2) := by
  have h0 := hS.1
  obtain ⟨r, hr⟩ := Eu_pre S (n := (p + 1).toNat + 1) (m := (S 0 0).toNat + 1) (by rcases hv with h | h <;> omega)
  unfold El
  rw [hr, Eu_vp hv, List.append_assoc, List.getElem?_append_right (by omega), show (Eu S (p + 1).toNat).length + t - (Eu S (p + 1).toNat).length = t by omega]
  have hlt := (List.getElem?_eq_some_iff.mp hq).1
  rw [List.getElem?_append_left (by simpa using hlt), List.getElem?_map, hq]
  rfl
theorem NxA_ends {M : ra_M} {S : Sc} (hS : okSc S) (h : NxA M S) {p : Int} (hv : vp S p) : M 14 (p + 1) = ((Eu S (p + 1).toNat).length : Nat) ∧ M 14 (p + 2) = ((Eu S (p + 1).toNat).length + (nx S p).length : Nat) := by
  have h0 := hS.1
  have hb : -1 ≤ p ∧ p < S 0 0 := by rcases hv with q | q <;> omega
  have h1 := h.2 (p + 1).toNat (by omega)
  have h2 := h.2 ((p + 1).toNat + 1) (by omega)
  rw [Eu_vp hv, List.length_append, List.length_map] at h2
  rw [show (((p + 1).toNat : Nat) : Int) = p + 1 by omega] at h1
  rw [show (((p + 1).toNat + 1 : Nat) : Int) = p + 2 by omega] at h2
  exact ⟨h1, h2⟩

set_option maxRecDepth 20000 in
set_option maxHeartbeats 2000000 in
theorem plays_loop {d : Nat} {Q : Option ra_V → ra_M → Prop} {K : Nat → ra_L → List ra_V → ra_M → Prop} (hK : ra_Clo (Ex (d + 2)) m_X1_plays cX1_plays Q K) {S : Sc} (hS : okSc S) {M : ra_M} (hs : scC M = S) {e p : Int} (hA : NxA M S) (he : 0 ≤ e ∧ e < 120) (hv : vp S p) (hrr : ∀ e2 p2, e ≤ e2 → e2 ≤ e + 1 → vp S p2 → 0 ≤ M 22 (e2 * 61 + p2 + 1) ∧ M 22 (e2 * 61 + p2 + 1) ≤ 200000)
    (hQ : ∀ r M2, (fun (r : Option ra_V) (M2 : ra_M) => (∃ q, (nx S p).find? (okP S (M 8) (T23 M) e p) = some q ∧ r = some (vI 1) ∧ M2 = ch3 M 0 q.1 (q.2 + wr S q.1 (M 8 e))) ∨ ((nx S p).find? (okP S (M 8) (T23 M) e p) = none ∧ r = some (vI 0) ∧ M2 = M)) r M2 → Q r M2) :
    ∀ (l pre : List (Int × Int)) (i : Nat), nx S p = pre ++ l → i = (Eu S (p + 1).toNat).length + pre.length → (nx S p).find? (okP S (M 8) (T23 M) e p) = l.find? (okP S (M 8) (T23 M) e p) → K 9 [some (vR 21), some (vI e), some (vI p), some (vI (i : Nat)), none] [] M := by
  have hs0 := hS.1
  have hpb : -1 ≤ p ∧ p < 60 := by rcases hv with h | h <;> omega
  obtain ⟨b1, b2⟩ := NxA_ends hS hA hv
  have hrp := hrr e p (by omega) (by omega) hv
  have hrp1 := hrr (e + 1) p (by omega) (by omega) hv
  have k1 := hS.2.2.2.2.2.2.2.1 1 (by omega) (by omega)
  have k2 := hS.2.2.2.2.2.2.2.1 2 (by omega) (by omega)
  have k4 := hS.2.2.2.2.2.2.2.1 4 (by omega) (by omega)
  intro l
  induction l with
  | nil =>
    intro pre i hl2 hi hf
    have hln : (nx S p).length = pre.length := by rw [hl2]; simp
    refine k_iln hK (q := 10)  dX1_plays_9 rfl (z := (i : Nat)) rfl (k_aln hK (q := 11)  dX1_plays_10 rfl (z := 21) rfl (k_gR hK (q := 14) (r := 10) dX1_plays_11 rfl rf_X1_37 rfl rfl (k_iln hK (q := 15)  dX1_plays_14 rfl (z := p) rfl ?_)))
    refine k_iv1I hK (q := 18) dX1_plays_15 rfl rm_X1_168 rfl rfl (Nat.le_of_ble_eq_true rfl) (t_endOf _ M p hpb) ?_
    refine k_cge hK (q := 21) (t := 80) dX1_plays_18 rfl rfl (fun h18 => ?_) (fun h18 => ?_)
    · refine k_ic hK (q := 81)  dX1_plays_80 rfl (by decide) ?_
      refine k_irz hK dX1_plays_81 rfl (by decide) ?_
      exact hQ _ M (Or.inr ⟨by rw [hf]; rfl, rfl, rfl⟩)
    · exact absurd h18 (by omega)
  | cons q l ih =>
    intro pre i hl2 hi hf
    obtain ⟨y, c⟩ := q
    have hln : (nx S p).length = pre.length + (l.length + 1) := by rw [hl2]; simp
    have hq : (nx S p)[pre.length]? = some (y, c) := by rw [hl2]; simp
    have hE : (El S)[i]? = some (p, y, c) := by rw [hi]; exact El_at hS hv hq
    have hl74 := El_len hS
    have hil := (List.getElem?_eq_some_iff.mp hE).1
    obtain ⟨g11, g12, g13⟩ := hA.1.2 i _ hE
    simp only at g11 g12 g13
    have hm := nx_mem hS (List.mem_of_getElem? hq)
    simp only at hm
    have hwr := wr_in hS y (M 8 e)
    have hry := hrr e y (by omega) (by omega) (Or.inr hm.1)
    have hry1 := hrr (e + 1) y (by omega) (by omega) (Or.inr hm.1)
    refine k_iln hK (q := 10)  dX1_plays_9 rfl (z := (i : Nat)) rfl (k_aln hK (q := 11)  dX1_plays_10 rfl (z := 21) rfl (k_gR hK (q := 14) (r := 10) dX1_plays_11 rfl rf_X1_37 rfl rfl (k_iln hK (q := 15)  dX1_plays_14 rfl (z := p) rfl ?_)))
    refine k_iv1I hK (q := 18) dX1_plays_15 rfl rm_X1_168 rfl rfl (Nat.le_of_ble_eq_true rfl) (t_endOf _ M p hpb) ?_
    refine k_cge hK (q := 21) (t := 80) dX1_plays_18 rfl rfl (fun h18 => ?_) (fun h18 => ?_)
    · exact absurd h18 (by omega)
    · refine k_aln hK (q := 22)  dX1_plays_21 rfl (z := 21) rfl (k_iln hK (q := 23)  dX1_plays_22 rfl (z := e) rfl (k_iln hK (q := 24)  dX1_plays_23 rfl (z := p) rfl ?_))
      refine k_iv2I hK (q := 27) dX1_plays_24 rfl rm_X1_63 rfl rfl (Nat.le_of_ble_eq_true rfl) (xc_restAt _ M e p (by omega) (by omega)) ?_
      refine k_aln hK (q := 28)  dX1_plays_27 rfl (z := 21) rfl (k_iln hK (q := 29)  dX1_plays_28 rfl (z := e) rfl (k_ic hK (q := 30)  dX1_plays_29 rfl (by decide) (k_add hK (q := 31)  dX1_plays_30 rfl (z := e + 1) rfl (by omega) (k_aln hK (q := 32)  dX1_plays_31 rfl (z := 21) rfl (k_gR hK (q := 35) (r := 10) dX1_plays_32 rfl rf_X1_37 rfl rfl ?_)))))
      refine k_gR hK (q := 38) (r := 12) dX1_plays_35 rfl rf_X1_104 rfl rfl (k_iln hK (q := 39)  dX1_plays_38 rfl (z := (i : Nat)) rfl (k_ald hK (q := 40)  dX1_plays_39 rfl (y := M 12 (i : Nat)) rfl (by omega) rfl ?_))
      rw [g12]
      refine k_iv2I hK (q := 43) dX1_plays_40 rfl rm_X1_63 rfl rfl (Nat.le_of_ble_eq_true rfl) (xc_restAt _ M (e + 1) y (by omega) (by omega)) ?_
      refine k_sub hK (q := 44)  dX1_plays_43 rfl (z := (M 22 (e * 61 + p + 1)) - (M 22 ((e + 1) * 61 + y + 1))) rfl (by omega) (k_is hK (q := 46)  dX1_plays_44 rfl (L2 := [some (vR 21), some (vI e), some (vI p), some (vI (i : Nat)), some (vI ((M 22 (e * 61 + p + 1)) - (M 22 ((e + 1) * 61 + y + 1))))]) (Nat.le_of_ble_eq_true rfl) rfl (k_aln hK (q := 47)  dX1_plays_46 rfl (z := 21) rfl (k_iln hK (q := 48)  dX1_plays_47 rfl (z := (i : Nat)) rfl (k_iln hK (q := 49)  dX1_plays_48 rfl (z := e) rfl ?_))))
      refine k_iv2I hK (q := 52) dX1_plays_49 rfl rm_X1_128 rfl rfl (Nat.le_of_ble_eq_true rfl) (xc_playPrice _ M e S hs hS i p y c hA.1 hE he) ?_
      refine k_il hK (q := 54)  dX1_plays_52 rfl (z := ((M 22 (e * 61 + p + 1)) - (M 22 ((e + 1) * 61 + y + 1)))) rfl ?_
      refine k_cne hK (q := 57) (t := 74) dX1_plays_54 rfl rfl (fun h54 => ?_) (fun h54 => ?_)
      · refine k_inc hK (q := 77)  dX1_plays_74 rfl (y := (i : Nat) + 1) (L2 := [some (vR 21), some (vI e), some (vI p), some (vI ((i : Nat) + 1)), some (vI ((M 22 (e * 61 + p + 1)) - (M 22 ((e + 1) * 61 + y + 1))))]) rfl rfl (by omega) rfl (k_goto hK (t := 9) dX1_plays_77 rfl ?_)
        refine k_weak hK (L2 := [some (vR 21), some (vI e), some (vI p), some (vI ((i : Nat) + 1)), none]) ⟨Or.inl rfl, Or.inl rfl, Or.inl rfl, Or.inl rfl, Or.inr rfl, trivial⟩ ?_
        exact ih (pre ++ [(y, c)]) (i + 1) (by rw [hl2, List.append_assoc]; rfl) (by simp; omega) (by rw [hf, List.find?_cons, show okP S (M 8) (T23 M) e p (y, c) = false from decide_eq_false (by simp only [T23]; omega)])
      · refine k_aln hK (q := 58)  dX1_plays_57 rfl (z := 21) rfl (k_ic hK (q := 59)  dX1_plays_58 rfl (by decide) (k_aln hK (q := 60)  dX1_plays_59 rfl (z := 21) rfl (k_gR hK (q := 63) (r := 10) dX1_plays_60 rfl rf_X1_37 rfl rfl (k_gR hK (q := 66) (r := 12) dX1_plays_63 rfl rf_X1_104 rfl rfl (k_iln hK (q := 67)  dX1_plays_66 rfl (z := (i : Nat)) rfl ?_)))))
        refine k_ald hK (q := 68)  dX1_plays_67 rfl (y := M 12 (i : Nat)) rfl (by omega) rfl ?_
        rw [g12]
        refine k_il hK (q := 70)  dX1_plays_68 rfl (z := ((M 22 (e * 61 + p + 1)) - (M 22 ((e + 1) * 61 + y + 1)))) rfl ?_
        refine k_iv3I hK (q := 73) dX1_plays_70 rfl rm_X1_171 rfl rfl (Nat.le_of_ble_eq_true rfl) (t_chosen _ M 0 y ((M 22 (e * 61 + p + 1)) - (M 22 ((e + 1) * 61 + y + 1)))) ?_
        refine k_irz hK dX1_plays_73 rfl (by decide) ?_
        refine hQ _ _ (Or.inl ⟨(y, c), ?_, rfl, ?_⟩)
        · rw [hf, List.find?_cons, show okP S (M 8) (T23 M) e p (y, c) = true from decide_eq_true (by simp only [T23]; omega)]
        · simp only [ch3]
          rw [h54]

set_option maxRecDepth 20000 in
set_option maxHeartbeats 2000000 in
theorem xc_plays (d : Nat) (M : ra_M) (e p : Int) (S : Sc) (hs : scC M = S) (hS : okSc S) (hA : NxA M S) (he : 0 ≤ e ∧ e < 120) (hv : vp S p) (hrr : ∀ e2 p2, e ≤ e2 → e2 ≤ e + 1 → vp S p2 → 0 ≤ M 22 (e2 * 61 + p2 + 1) ∧ M 22 (e2 * 61 + p2 + 1) ≤ 200000) : Ex (d + 3) m_X1_plays [vR 21, vI e, vI p] M (fun (r : Option ra_V) (M2 : ra_M) => (∃ q, (nx S p).find? (okP S (M 8) (T23 M) e p) = some q ∧ r = some (vI 1) ∧ M2 = ch3 M 0 q.1 (q.2 + wr S q.1 (M 8 e))) ∨ ((nx S p).find? (okP S (M 8) (T23 M) e p) = none ∧ r = some (vI 0) ∧ M2 = M)) := by
  refine Ex_call (Nat.le_of_ble_eq_true rfl) (fun K hK => ?_)
  show K 0 [some (vR 21), some (vI e), some (vI p), none, none] [] M
  have hK : ra_Clo _ m_X1_plays cX1_plays _ K := hK
  have hs0 := hS.1
  have hpb : -1 ≤ p ∧ p < 60 := by rcases hv with h | h <;> omega
  obtain ⟨b1, b2⟩ := NxA_ends hS hA hv
  have hrp := hrr e p (by omega) (by omega) hv
  have hrp1 := hrr (e + 1) p (by omega) (by omega) hv
  refine k_aln hK (q := 1)  dX1_plays_0 rfl (z := 21) rfl (k_gR hK (q := 4) (r := 10) dX1_plays_1 rfl rf_X1_37 rfl rfl (k_iln hK (q := 5)  dX1_plays_4 rfl (z := p) rfl ?_))
  refine k_iv1I hK (q := 8) dX1_plays_5 rfl rm_X1_165 rfl rfl (Nat.le_of_ble_eq_true rfl) (t_beginOf _ M p hpb) ?_
  rw [b1]
  refine k_isn hK (q := 9)  dX1_plays_8 rfl (L2 := [some (vR 21), some (vI e), some (vI p), some (vI ((Eu S (p + 1).toNat).length : Nat)), none]) (Nat.le_of_ble_eq_true rfl) rfl ?_
  exact plays_loop hK hS hs hA he hv hrr (fun r M2 h => h) (nx S p) [] _ rfl (by simp) rfl

set_option maxRecDepth 20000 in
set_option maxHeartbeats 2000000 in
theorem passes_loop {d : Nat} {Q : Option ra_V → ra_M → Prop} {K : Nat → ra_L → List ra_V → ra_M → Prop} (hK : ra_Clo (Ex (d + 2)) m_X1_passes cX1_passes Q K) {S : Sc} (hS : okSc S) {M : ra_M} (hs : scC M = S) {e p : Int} (hA : NxA M S) (he : 0 ≤ e ∧ e < 120) (hv : vp S p) (hrr : ∀ e2 p2, e ≤ e2 → e2 ≤ e + 1 → vp S p2 → 0 ≤ M 22 (e2 * 61 + p2 + 1) ∧ M 22 (e2 * 61 + p2 + 1) ≤ 200000)
    (hQ : ∀ r M2, (fun (r : Option ra_V) (M2 : ra_M) => (∃ q, (nx S p).find? (okJ S (T23 M) e p) = some q ∧ r = some (vI 1) ∧ M2 = ch3 M 2 q.1 (q.2 + S 5 2)) ∨ ((nx S p).find? (okJ S (T23 M) e p) = none ∧ r = some (vI 0) ∧ M2 = M)) r M2 → Q r M2) :
    ∀ (l pre : List (Int × Int)) (i : Nat), nx S p = pre ++ l → i = (Eu S (p + 1).toNat).length + pre.length → (nx S p).find? (okJ S (T23 M) e p) = l.find? (okJ S (T23 M) e p) → K 9 [some (vR 21), some (vI e), some (vI p), some (vI (i : Nat)), none] [] M := by
  have hs0 := hS.1
  have hpb : -1 ≤ p ∧ p < 60 := by rcases hv with h | h <;> omega
  obtain ⟨b1, b2⟩ := NxA_ends hS hA hv
  have hrp := hrr e p (by omega) (by omega) hv
  have hrp1 := hrr (e + 1) p (by omega) (by omega) hv
  have k1 := hS.2.2.2.2.2.2.2.1 1 (by omega) (by omega)
  have k2 := hS.2.2.2.2.2.2.2.1 2 (by omega) (by omega)
  have k4 := hS.2.2.2.2.2.2.2.1 4 (by omega) (by omega)
  intro l
  induction l with
  | nil =>
    intro pre i hl2 hi hf
    have hln : (nx S p).length = pre.length := by rw [hl2]; simp
    refine k_iln hK (q := 10)  dX1_passes_9 rfl (z := (i : Nat)) rfl (k_aln hK (q := 11)  dX1_passes_10 rfl (z := 21) rfl (k_gR hK (q := 14) (r := 10) dX1_passes_11 rfl rf_X1_37 rfl rfl (k_iln hK (q := 15)  dX1_passes_14 rfl (z := p) rfl ?_)))
    refine k_iv1I hK (q := 18) dX1_passes_15 rfl rm_X1_168 rfl rfl (Nat.le_of_ble_eq_true rfl) (t_endOf _ M p hpb) ?_
    refine k_cge hK (q := 21) (t := 77) dX1_passes_18 rfl rfl (fun h18 => ?_) (fun h18 => ?_)
    · refine k_ic hK (q := 78)  dX1_passes_77 rfl (by decide) ?_
      refine k_irz hK dX1_passes_78 rfl (by decide) ?_
      exact hQ _ M (Or.inr ⟨by rw [hf]; rfl, rfl, rfl⟩)
    · exact absurd h18 (by omega)
  | cons q l ih =>
    intro pre i hl2 hi hf
    obtain ⟨y, c⟩ := q
    have hln : (nx S p).length = pre.length + (l.length + 1) := by rw [hl2]; simp
    have hq : (nx S p)[pre.length]? = some (y, c) := by rw [hl2]; simp
    have hE : (El S)[i]? = some (p, y, c) := by rw [hi]; exact El_at hS hv hq
    have hl74 := El_len hS
    have hil := (List.getElem?_eq_some_iff.mp hE).1
    obtain ⟨g11, g12, g13⟩ := hA.1.2 i _ hE
    simp only at g11 g12 g13
    have hm := nx_mem hS (List.mem_of_getElem? hq)
    simp only at hm
    have hwr := wr_in hS y (M 8 e)
    have hry := hrr e y (by omega) (by omega) (Or.inr hm.1)
    have hry1 := hrr (e + 1) y (by omega) (by omega) (Or.inr hm.1)
    refine k_iln hK (q := 10)  dX1_passes_9 rfl (z := (i : Nat)) rfl (k_aln hK (q := 11)  dX1_passes_10 rfl (z := 21) rfl (k_gR hK (q := 14) (r := 10) dX1_passes_11 rfl rf_X1_37 rfl rfl (k_iln hK (q := 15)  dX1_passes_14 rfl (z := p) rfl ?_)))
    refine k_iv1I hK (q := 18) dX1_passes_15 rfl rm_X1_168 rfl rfl (Nat.le_of_ble_eq_true rfl) (t_endOf _ M p hpb) ?_
    refine k_cge hK (q := 21) (t := 77) dX1_passes_18 rfl rfl (fun h18 => ?_) (fun h18 => ?_)
    · exact absurd h18 (by omega)
    · refine k_aln hK (q := 22)  dX1_passes_21 rfl (z := 21) rfl (k_iln hK (q := 23)  dX1_passes_22 rfl (z := e) rfl (k_iln hK (q := 24)  dX1_passes_23 rfl (z := p) rfl ?_))
      refine k_iv2I hK (q := 27) dX1_passes_24 rfl rm_X1_63 rfl rfl (Nat.le_of_ble_eq_true rfl) (xc_restAt _ M e p (by omega) (by omega)) ?_
      refine k_aln hK (q := 28)  dX1_passes_27 rfl (z := 21) rfl (k_iln hK (q := 29)  dX1_passes_28 rfl (z := e) rfl (k_aln hK (q := 30)  dX1_passes_29 rfl (z := 21) rfl (k_gR hK (q := 33) (r := 10) dX1_passes_30 rfl rf_X1_37 rfl rfl (k_gR hK (q := 36) (r := 12) dX1_passes_33 rfl rf_X1_104 rfl rfl (k_iln hK (q := 37)  dX1_passes_36 rfl (z := (i : Nat)) rfl ?_)))))
      refine k_ald hK (q := 38)  dX1_passes_37 rfl (y := M 12 (i : Nat)) rfl (by omega) rfl ?_
      rw [g12]
      refine k_iv2I hK (q := 41) dX1_passes_38 rfl rm_X1_63 rfl rfl (Nat.le_of_ble_eq_true rfl) (xc_restAt _ M e y (by omega) (by omega)) ?_
      refine k_sub hK (q := 42)  dX1_passes_41 rfl (z := (M 22 (e * 61 + p + 1)) - (M 22 (e * 61 + y + 1))) rfl (by omega) (k_is hK (q := 44)  dX1_passes_42 rfl (L2 := [some (vR 21), some (vI e), some (vI p), some (vI (i : Nat)), some (vI ((M 22 (e * 61 + p + 1)) - (M 22 (e * 61 + y + 1))))]) (Nat.le_of_ble_eq_true rfl) rfl (k_aln hK (q := 45)  dX1_passes_44 rfl (z := 21) rfl (k_iln hK (q := 46)  dX1_passes_45 rfl (z := (i : Nat)) rfl ?_)))
      refine k_iv1I hK (q := 49) dX1_passes_46 rfl rm_X1_138 rfl rfl (Nat.le_of_ble_eq_true rfl) (xc_passPrice _ M S hs hS i p y c hA.1 hE) ?_
      refine k_il hK (q := 51)  dX1_passes_49 rfl (z := ((M 22 (e * 61 + p + 1)) - (M 22 (e * 61 + y + 1)))) rfl ?_
      refine k_cne hK (q := 54) (t := 71) dX1_passes_51 rfl rfl (fun h51 => ?_) (fun h51 => ?_)
      · refine k_inc hK (q := 74)  dX1_passes_71 rfl (y := (i : Nat) + 1) (L2 := [some (vR 21), some (vI e), some (vI p), some (vI ((i : Nat) + 1)), some (vI ((M 22 (e * 61 + p + 1)) - (M 22 (e * 61 + y + 1))))]) rfl rfl (by omega) rfl (k_goto hK (t := 9) dX1_passes_74 rfl ?_)
        refine k_weak hK (L2 := [some (vR 21), some (vI e), some (vI p), some (vI ((i : Nat) + 1)), none]) ⟨Or.inl rfl, Or.inl rfl, Or.inl rfl, Or.inl rfl, Or.inr rfl, trivial⟩ ?_
        exact ih (pre ++ [(y, c)]) (i + 1) (by rw [hl2, List.append_assoc]; rfl) (by simp; omega) (by rw [hf, List.find?_cons, show okJ S (T23 M) e p (y, c) = false from decide_eq_false (by simp only [T23]; omega)])
      · refine k_aln hK (q := 55)  dX1_passes_54 rfl (z := 21) rfl (k_ic hK (q := 56)  dX1_passes_55 rfl (by decide) (k_aln hK (q := 57)  dX1_passes_56 rfl (z := 21) rfl (k_gR hK (q := 60) (r := 10) dX1_passes_57 rfl rf_X1_37 rfl rfl (k_gR hK (q := 63) (r := 12) dX1_passes_60 rfl rf_X1_104 rfl rfl (k_iln hK (q := 64)  dX1_passes_63 rfl (z := (i : Nat)) rfl ?_)))))
        refine k_ald hK (q := 65)  dX1_passes_64 rfl (y := M 12 (i : Nat)) rfl (by omega) rfl ?_
        rw [g12]
        refine k_il hK (q := 67)  dX1_passes_65 rfl (z := ((M 22 (e * 61 + p + 1)) - (M 22 (e * 61 + y + 1)))) rfl ?_
        refine k_iv3I hK (q := 70) dX1_passes_67 rfl rm_X1_171 rfl rfl (Nat.le_of_ble_eq_true rfl) (t_chosen _ M 2 y ((M 22 (e * 61 + p + 1)) - (M 22 (e * 61 + y + 1)))) ?_
        refine k_irz hK dX1_passes_70 rfl (by decide) ?_
        refine hQ _ _ (Or.inl ⟨(y, c), ?_, rfl, ?_⟩)
        · rw [hf, List.find?_cons, show okJ S (T23 M) e p (y, c) = true from decide_eq_true (by simp only [T23]; omega)]
        · simp only [ch3]
          rw [h51]

set_option maxRecDepth 20000 in
set_option maxHeartbeats 2000000 in
theorem xc_passes (d : Nat) (M : ra_M) (e p : Int) (S : Sc) (hs : scC M = S) (hS : okSc S) (hA : NxA M S) (he : 0 ≤ e ∧ e < 120) (hv : vp S p) (hrr : ∀ e2 p2, e ≤ e2 → e2 ≤ e + 1 → vp S p2 → 0 ≤ M 22 (e2 * 61 + p2 + 1) ∧ M 22 (e2 * 61 + p2 + 1) ≤ 200000) : Ex (d + 3) m_X1_passes [vR 21, vI e, vI p] M (fun (r : Option ra_V) (M2 : ra_M) => (∃ q, (nx S p).find? (okJ S (T23 M) e p) = some q ∧ r = some (vI 1) ∧ M2 = ch3 M 2 q.1 (q.2 + S 5 2)) ∨ ((nx S p).find? (okJ S (T23 M) e p) = none ∧ r = some (vI 0) ∧ M2 = M)) := by
  refine Ex_call (Nat.le_of_ble_eq_true rfl) (fun K hK => ?_)
  show K 0 [some (vR 21), some (vI e), some (vI p), none, none] [] M
  have hK : ra_Clo _ m_X1_passes cX1_passes _ K := hK
  have hs0 := hS.1
  have hpb : -1 ≤ p ∧ p < 60 := by rcases hv with h | h <;> omega
  obtain ⟨b1, b2⟩ := NxA_ends hS hA hv
  have hrp := hrr e p (by omega) (by omega) hv
  have hrp1 := hrr (e + 1) p (by omega) (by omega) hv
  refine k_aln hK (q := 1)  dX1_passes_0 rfl (z := 21) rfl (k_gR hK (q := 4) (r := 10) dX1_passes_1 rfl rf_X1_37 rfl rfl (k_iln hK (q := 5)  dX1_passes_4 rfl (z := p) rfl ?_))
  refine k_iv1I hK (q := 8) dX1_passes_5 rfl rm_X1_165 rfl rfl (Nat.le_of_ble_eq_true rfl) (t_beginOf _ M p hpb) ?_
  rw [b1]
  refine k_isn hK (q := 9)  dX1_passes_8 rfl (L2 := [some (vR 21), some (vI e), some (vI p), some (vI ((Eu S (p + 1).toNat).length : Nat)), none]) (Nat.le_of_ble_eq_true rfl) rfl ?_
  exact passes_loop hK hS hs hA he hv hrr (fun r M2 h => h) (nx S p) [] _ rfl (by simp) rfl

set_option maxRecDepth 20000 in
set_option maxHeartbeats 2000000 in
theorem xc_stays (d : Nat) (M : ra_M) (e p : Int) (S : Sc) (hs : scC M = S) (hS : okSc S) (hA : NxA M S) (he : 0 ≤ e ∧ e < 120) (hv : vp S p) (hrr : ∀ e2 p2, e ≤ e2 → e2 ≤ e + 1 → vp S p2 → 0 ≤ M 22 (e2 * 61 + p2 + 1) ∧ M 22 (e2 * 61 + p2 + 1) ≤ 200000) : Ex (d + 1) m_X1_stays [vR 21, vI e, vI p] M (fun (r : Option ra_V) (M2 : ra_M) => (S 5 1 + T23 M (e + 1) p = T23 M e p ∧ r = some (vI 1) ∧ M2 = ch3 M 1 p (S 5 1)) ∨ (¬ S 5 1 + T23 M (e + 1) p = T23 M e p ∧ r = some (vI 0) ∧ M2 = M)) := by
  refine Ex_call (Nat.le_of_ble_eq_true rfl) (fun K hK => ?_)
  show K 0 [some (vR 21), some (vI e), some (vI p), none] [] M
  have hK : ra_Clo _ m_X1_stays cX1_stays _ K := hK
  have hs0 := hS.1
  have hpb : -1 ≤ p ∧ p < 60 := by rcases hv with h | h <;> omega
  obtain ⟨b1, b2⟩ := NxA_ends hS hA hv
  have hrp := hrr e p (by omega) (by omega) hv
  have hrp1 := hrr (e + 1) p (by omega) (by omega) hv
  have k1 := hS.2.2.2.2.2.2.2.1 1 (by omega) (by omega)
  have k2 := hS.2.2.2.2.2.2.2.1 2 (by omega) (by omega)
  have k4 := hS.2.2.2.2.2.2.2.1 4 (by omega) (by omega)
  obtain ⟨a2, a3, a4, a5, a6⟩ := scC_a hs
  refine k_aln hK (q := 1)  dX1_stays_0 rfl (z := 21) rfl (k_iln hK (q := 2)  dX1_stays_1 rfl (z := e) rfl (k_iln hK (q := 3)  dX1_stays_2 rfl (z := p) rfl ?_))
  refine k_iv2I hK (q := 6) dX1_stays_3 rfl rm_X1_63 rfl rfl (Nat.le_of_ble_eq_true rfl) (xc_restAt _ M e p (by omega) (by omega)) ?_
  refine k_aln hK (q := 7)  dX1_stays_6 rfl (z := 21) rfl (k_iln hK (q := 8)  dX1_stays_7 rfl (z := e) rfl (k_ic hK (q := 9)  dX1_stays_8 rfl (by decide) (k_add hK (q := 10)  dX1_stays_9 rfl (z := e + 1) rfl (by omega) (k_iln hK (q := 11)  dX1_stays_10 rfl (z := p) rfl ?_))))
  refine k_iv2I hK (q := 14) dX1_stays_11 rfl rm_X1_63 rfl rfl (Nat.le_of_ble_eq_true rfl) (xc_restAt _ M (e + 1) p (by omega) (by omega)) ?_
  refine k_sub hK (q := 15)  dX1_stays_14 rfl (z := (M 22 (e * 61 + p + 1)) - (M 22 ((e + 1) * 61 + p + 1))) rfl (by omega) (k_isn hK (q := 16)  dX1_stays_15 rfl (L2 := [some (vR 21), some (vI e), some (vI p), some (vI ((M 22 (e * 61 + p + 1)) - (M 22 ((e + 1) * 61 + p + 1))))]) (Nat.le_of_ble_eq_true rfl) rfl (k_aln hK (q := 17)  dX1_stays_16 rfl (z := 21) rfl (k_gR hK (q := 20) (r := 1) dX1_stays_17 rfl rf_X1_33 rfl rfl (k_gR hK (q := 23) (r := 6) dX1_stays_20 rfl rf_X1_113 rfl rfl (k_ic hK (q := 24)  dX1_stays_23 rfl (by decide) ?_)))))
  refine k_ald hK (q := 25)  dX1_stays_24 rfl (y := M 6 1) rfl (by omega) rfl ?_
  rw [a6]
  refine k_iln hK (q := 26)  dX1_stays_25 rfl (z := ((M 22 (e * 61 + p + 1)) - (M 22 ((e + 1) * 61 + p + 1)))) rfl ?_
  refine k_ceq hK (q := 29) (t := 31) dX1_stays_26 rfl rfl (fun h26 => ?_) (fun h26 => ?_)
  · refine k_aln hK (q := 32)  dX1_stays_31 rfl (z := 21) rfl (k_ic hK (q := 33)  dX1_stays_32 rfl (by decide) (k_iln hK (q := 34)  dX1_stays_33 rfl (z := p) rfl (k_iln hK (q := 35)  dX1_stays_34 rfl (z := ((M 22 (e * 61 + p + 1)) - (M 22 ((e + 1) * 61 + p + 1)))) rfl ?_)))
    refine k_iv3I hK (q := 38) dX1_stays_35 rfl rm_X1_171 rfl rfl (Nat.le_of_ble_eq_true rfl) (t_chosen _ M 1 p ((M 22 (e * 61 + p + 1)) - (M 22 ((e + 1) * 61 + p + 1)))) ?_
    refine k_irz hK dX1_stays_38 rfl (by decide) ?_
    refine Or.inl ⟨by simp only [T23]; omega, rfl, ?_⟩
    simp only [ch3]
    rw [h26]
  · refine k_ic hK (q := 30)  dX1_stays_29 rfl (by decide) ?_
    refine k_irz hK dX1_stays_30 rfl (by decide) ?_
    exact Or.inr ⟨by simp only [T23]; omega, rfl, rfl⟩

theorem find_first {p : Nat → Bool} {n m : Nat} (h : n < m) (h1 : ∀ i, i < n → p i = false) (h2 : p n = true) : (List.range m).find? p = some n := by
  rw [List.find?_range_eq_some]
  exact ⟨h2, List.mem_range.mpr h, fun j hj => by simpa using h1 j hj⟩

set_option maxRecDepth 20000 in
set_option maxHeartbeats 2000000 in
theorem leaps_loop {d : Nat} {Q : Option ra_V → ra_M → Prop} {K : Nat → ra_L → List ra_V → ra_M → Prop} (hK : ra_Clo (Ex (d + 2)) m_X1_leaps cX1_leaps Q K) {S : Sc} (hS : okSc S) {M : ra_M} (hs : scC M = S) {e p : Int} (hA : NxA M S) (he : 0 ≤ e ∧ e < 120) (hv : vp S p) (hrr : ∀ e2 p2, e ≤ e2 → e2 ≤ e + 1 → vp S p2 → 0 ≤ M 22 (e2 * 61 + p2 + 1) ∧ M 22 (e2 * 61 + p2 + 1) ≤ 200000) {fi la : Int} (hth : ∀ n : Int, thr S n ↔ fi ≤ n ∧ n ≤ la) (hfl : 0 ≤ fi ∧ fi ≤ la + 1 ∧ la < S 0 0) (hlaS : la = (if S 0 2 ≠ -1 then S 0 3 else S 0 0 - 1))
    (hQ : ∀ r M2, (fun (r : Option ra_V) (M2 : ra_M) => (∃ n : Nat, (List.range (S 0 0).toNat).find? (okH S (M 8) (T23 M) e p) = some n ∧ r = some (vI 1) ∧ M2 = ch3 M 3 (n : Nat) (S 5 4 + wr S (n : Nat) (M 8 e))) ∨ ((List.range (S 0 0).toNat).find? (okH S (M 8) (T23 M) e p) = none ∧ r = some (vI 0) ∧ M2 = M)) r M2 → Q r M2) :
    ∀ (m n : Nat), (n : Int) + m = la + 1 → fi ≤ (n : Int) → (∀ i, i < n → okH S (M 8) (T23 M) e p i = false) → K 8 [some (vR 21), some (vI e), some (vI p), some (vI (n : Nat)), none] [] M := by
  have hs0 := hS.1
  have hpb : -1 ≤ p ∧ p < 60 := by rcases hv with h | h <;> omega
  obtain ⟨b1, b2⟩ := NxA_ends hS hA hv
  have hrp := hrr e p (by omega) (by omega) hv
  have hrp1 := hrr (e + 1) p (by omega) (by omega) hv
  have k1 := hS.2.2.2.2.2.2.2.1 1 (by omega) (by omega)
  have k2 := hS.2.2.2.2.2.2.2.1 2 (by omega) (by omega)
  have k4 := hS.2.2.2.2.2.2.2.1 4 (by omega) (by omega)
  obtain ⟨e5, e6, e7, e8, e9⟩ := scC_e hs
  have hla : (if M 1 7 ≠ -1 then M 1 8 else M 1 5 - 1) = la := by rw [e5, e7, e8, hlaS]
  intro m
  induction m with
  | zero =>
    intro n hi hfi hno
    refine k_iln hK (q := 9)  dX1_leaps_8 rfl (z := (n : Nat)) rfl (k_aln hK (q := 10)  dX1_leaps_9 rfl (z := 21) rfl (k_gR hK (q := 13) (r := 1) dX1_leaps_10 rfl rf_X1_33 rfl rfl ?_))
    refine k_iv0I hK (q := 16) dX1_leaps_13 rfl rm_X1_121 rfl rfl (Nat.le_of_ble_eq_true rfl) (t_lastThere _ M (by omega)) ?_
    rw [hla]
    refine k_cgt hK (q := 19) (t := 62) dX1_leaps_16 rfl rfl (fun h16 => ?_) (fun h16 => ?_)
    · refine k_ic hK (q := 63)  dX1_leaps_62 rfl (by decide) ?_
      refine k_irz hK dX1_leaps_63 rfl (by decide) ?_
      refine hQ _ M (Or.inr ⟨?_, rfl, rfl⟩)
      refine List.find?_eq_none.mpr (fun i hi => ?_)
      rw [List.mem_range] at hi
      by_cases h : i < n
      · rw [hno i h]; decide
      · unfold okH
        have : ¬ thr S (i : Nat) := fun q => by have := (hth (i : Nat)).mp q; omega
        simp [this]
    · exact absurd h16 (by omega)
  | succ m ih =>
    intro n hi hfi hno
    have ht : thr S (n : Nat) := (hth (n : Nat)).mpr (by omega)
    have hwr := wr_in hS (n : Nat) (M 8 e)
    have hrn := hrr (e + 1) (n : Nat) (by omega) (by omega) (Or.inr ht)
    refine k_iln hK (q := 9)  dX1_leaps_8 rfl (z := (n : Nat)) rfl (k_aln hK (q := 10)  dX1_leaps_9 rfl (z := 21) rfl (k_gR hK (q := 13) (r := 1) dX1_leaps_10 rfl rf_X1_33 rfl rfl ?_))
    refine k_iv0I hK (q := 16) dX1_leaps_13 rfl rm_X1_121 rfl rfl (Nat.le_of_ble_eq_true rfl) (t_lastThere _ M (by omega)) ?_
    rw [hla]
    refine k_cgt hK (q := 19) (t := 62) dX1_leaps_16 rfl rfl (fun h16 => ?_) (fun h16 => ?_)
    · exact absurd h16 (by omega)
    · refine k_aln hK (q := 20)  dX1_leaps_19 rfl (z := 21) rfl (k_iln hK (q := 21)  dX1_leaps_20 rfl (z := e) rfl (k_iln hK (q := 22)  dX1_leaps_21 rfl (z := p) rfl ?_))
      refine k_iv2I hK (q := 25) dX1_leaps_22 rfl rm_X1_63 rfl rfl (Nat.le_of_ble_eq_true rfl) (xc_restAt _ M e p (by omega) (by omega)) ?_
      refine k_aln hK (q := 26)  dX1_leaps_25 rfl (z := 21) rfl (k_iln hK (q := 27)  dX1_leaps_26 rfl (z := e) rfl (k_ic hK (q := 28)  dX1_leaps_27 rfl (by decide) (k_add hK (q := 29)  dX1_leaps_28 rfl (z := e + 1) rfl (by omega) (k_iln hK (q := 30)  dX1_leaps_29 rfl (z := (n : Nat)) rfl ?_))))
      refine k_iv2I hK (q := 33) dX1_leaps_30 rfl rm_X1_63 rfl rfl (Nat.le_of_ble_eq_true rfl) (xc_restAt _ M (e + 1) (n : Nat) (by omega) (by omega)) ?_
      refine k_sub hK (q := 34)  dX1_leaps_33 rfl (z := (M 22 (e * 61 + p + 1)) - (M 22 ((e + 1) * 61 + (n : Nat) + 1))) rfl (by omega) (k_is hK (q := 36)  dX1_leaps_34 rfl (L2 := [some (vR 21), some (vI e), some (vI p), some (vI (n : Nat)), some (vI ((M 22 (e * 61 + p + 1)) - (M 22 ((e + 1) * 61 + (n : Nat) + 1))))]) (Nat.le_of_ble_eq_true rfl) rfl (k_aln hK (q := 37)  dX1_leaps_36 rfl (z := 21) rfl (k_iln hK (q := 38)  dX1_leaps_37 rfl (z := (n : Nat)) rfl (k_iln hK (q := 39)  dX1_leaps_38 rfl (z := e) rfl ?_))))
      refine k_iv2I hK (q := 42) dX1_leaps_39 rfl rm_X1_124 rfl rfl (Nat.le_of_ble_eq_true rfl) (xc_leapPrice _ M (n : Nat) e S hs hS (by omega) he) ?_
      refine k_il hK (q := 44)  dX1_leaps_42 rfl (z := ((M 22 (e * 61 + p + 1)) - (M 22 ((e + 1) * 61 + (n : Nat) + 1)))) rfl ?_
      refine k_cne hK (q := 47) (t := 56) dX1_leaps_44 rfl rfl (fun h44 => ?_) (fun h44 => ?_)
      · refine k_inc hK (q := 59)  dX1_leaps_56 rfl (y := (n : Nat) + 1) (L2 := [some (vR 21), some (vI e), some (vI p), some (vI ((n : Nat) + 1)), some (vI ((M 22 (e * 61 + p + 1)) - (M 22 ((e + 1) * 61 + (n : Nat) + 1))))]) rfl rfl (by omega) rfl (k_goto hK (t := 8) dX1_leaps_59 rfl ?_)
        refine k_weak hK (L2 := [some (vR 21), some (vI e), some (vI p), some (vI ((n : Nat) + 1)), none]) ⟨Or.inl rfl, Or.inl rfl, Or.inl rfl, Or.inl rfl, Or.inr rfl, trivial⟩ ?_
        refine ih (n + 1) (by omega) (by omega) (fun i hi => ?_)
        by_cases h : i = n
        · subst h
          exact decide_eq_false (fun q => by have q2 := q.2; simp only [T23] at q2; omega)
        · exact hno i (by omega)
      · refine k_aln hK (q := 48)  dX1_leaps_47 rfl (z := 21) rfl (k_ic hK (q := 49)  dX1_leaps_48 rfl (by decide) (k_iln hK (q := 50)  dX1_leaps_49 rfl (z := (n : Nat)) rfl (k_il hK (q := 52)  dX1_leaps_50 rfl (z := ((M 22 (e * 61 + p + 1)) - (M 22 ((e + 1) * 61 + (n : Nat) + 1)))) rfl ?_)))
        refine k_iv3I hK (q := 55) dX1_leaps_52 rfl rm_X1_171 rfl rfl (Nat.le_of_ble_eq_true rfl) (t_chosen _ M 3 (n : Nat) ((M 22 (e * 61 + p + 1)) - (M 22 ((e + 1) * 61 + (n : Nat) + 1)))) ?_
        refine k_irz hK dX1_leaps_55 rfl (by decide) ?_
        refine hQ _ _ (Or.inl ⟨n, ?_, rfl, ?_⟩)
        · refine find_first (by omega) hno ?_
          exact decide_eq_true ⟨ht, by simp only [T23]; omega⟩
        · simp only [ch3]
          rw [h44]

set_option maxRecDepth 20000 in
set_option maxHeartbeats 2000000 in
theorem xc_leaps (d : Nat) (M : ra_M) (e p : Int) (S : Sc) (hs : scC M = S) (hS : okSc S) (hA : NxA M S) (he : 0 ≤ e ∧ e < 120) (hv : vp S p) (hrr : ∀ e2 p2, e ≤ e2 → e2 ≤ e + 1 → vp S p2 → 0 ≤ M 22 (e2 * 61 + p2 + 1) ∧ M 22 (e2 * 61 + p2 + 1) ≤ 200000) : Ex (d + 3) m_X1_leaps [vR 21, vI e, vI p] M (fun (r : Option ra_V) (M2 : ra_M) => (∃ n : Nat, (List.range (S 0 0).toNat).find? (okH S (M 8) (T23 M) e p) = some n ∧ r = some (vI 1) ∧ M2 = ch3 M 3 (n : Nat) (S 5 4 + wr S (n : Nat) (M 8 e))) ∨ ((List.range (S 0 0).toNat).find? (okH S (M 8) (T23 M) e p) = none ∧ r = some (vI 0) ∧ M2 = M)) := by
  refine Ex_call (Nat.le_of_ble_eq_true rfl) (fun K hK => ?_)
  show K 0 [some (vR 21), some (vI e), some (vI p), none, none] [] M
  have hK : ra_Clo _ m_X1_leaps cX1_leaps _ K := hK
  have hs0 := hS.1
  have hs2 := hS.2.2.1
  obtain ⟨e5, e6, e7, e8, e9⟩ := scC_e hs
  obtain ⟨fi, hfie⟩ : ∃ z, z = (if S 0 2 ≠ -1 then S 0 2 else 0) := ⟨_, rfl⟩
  obtain ⟨la, hla⟩ : ∃ z, z = (if S 0 2 ≠ -1 then S 0 3 else S 0 0 - 1) := ⟨_, rfl⟩
  have hth : ∀ n : Int, thr S n ↔ fi ≤ n ∧ n ≤ la := by
    intro n
    have := thr_C hs hS n
    rw [e5, e7, e8, ← hfie, ← hla] at this
    exact this.symm
  have hfl : 0 ≤ fi ∧ fi ≤ la + 1 ∧ la < S 0 0 := by
    split at hfie <;> split at hla <;> omega
  refine k_aln hK (q := 1)  dX1_leaps_0 rfl (z := 21) rfl (k_gR hK (q := 4) (r := 1) dX1_leaps_1 rfl rf_X1_33 rfl rfl ?_)
  refine k_iv0I hK (q := 7) dX1_leaps_4 rfl rm_X1_117 rfl rfl (Nat.le_of_ble_eq_true rfl) (t_firstThere _ M) ?_
  have hfi : (if M 1 7 ≠ -1 then M 1 7 else 0) = ((fi.toNat : Nat) : Int) := by rw [e7]; omega
  rw [hfi]
  refine k_isn hK (q := 8)  dX1_leaps_7 rfl (L2 := [some (vR 21), some (vI e), some (vI p), some (vI (fi.toNat : Nat)), none]) (Nat.le_of_ble_eq_true rfl) rfl ?_
  exact leaps_loop hK hS hs hA he hv hrr hth hfl hla (fun r M2 h => h) (la + 1 - fi).toNat fi.toNat (by omega) (by omega) (fun i hi => decide_eq_false (fun q => by have := (hth (i : Nat)).mp q.1; omega))

theorem opt_no {S : Sc} {hp : Int → Int} {R : Int → Int → Int} {e p : Int} (h : rs1 S hp R e p) (h1 : (nx S p).find? (okP S hp R e p) = none) (hx : ¬ S 5 1 + R (e + 1) p = R e p) (h2 : (nx S p).find? (okJ S R e p) = none) (h3 : (List.range (S 0 0).toNat).find? (okH S hp R e p) = none) : False := by
  rcases h.2.2.2.2 with h | ⟨q, hq, h⟩ | ⟨q, hq, h⟩ | ⟨n, hn, h⟩
  · exact hx h.symm
  · have := List.find?_eq_none.mp h1 q hq
    unfold okP at this
    exact this (decide_eq_true h.symm)
  · have := List.find?_eq_none.mp h2 q hq
    unfold okJ at this
    exact this (decide_eq_true h.symm)
  · have := List.find?_eq_none.mp h3 n.toNat (List.mem_range.mpr (by omega))
    unfold okH at this
    apply this
    rw [show ((n.toNat : Nat) : Int) = n by omega]
    exact decide_eq_true ⟨hn, h.symm⟩

set_option maxRecDepth 20000 in
set_option maxHeartbeats 2000000 in
theorem xc_choose (d : Nat) (M : ra_M) (e p : Int) (S : Sc) (hs : scC M = S) (hS : okSc S) (hA : NxA M S) (he : 0 ≤ e ∧ e < 120) (hv : vp S p) (hrr : ∀ e2 p2, e ≤ e2 → e2 ≤ e + 1 → vp S p2 → 0 ≤ M 22 (e2 * 61 + p2 + 1) ∧ M 22 (e2 * 61 + p2 + 1) ≤ 200000) (hrs : rs1 S (M 8) (T23 M) e p) (s : St4) (hso : s = opt S (M 8) (T23 M) e p) : Ex (d + 4) m_X1_choose [vR 21, vI e, vI p] M (fun r M2 => r = none ∧ M2 = ch3 M s.1 s.2.1 s.2.2.2) := by
  refine Ex_call (Nat.le_of_ble_eq_true rfl) (fun K hK => ?_)
  show K 0 [some (vR 21), some (vI e), some (vI p)] [] M
  have hK : ra_Clo _ m_X1_choose cX1_choose _ K := hK
  refine k_aln hK (q := 1)  dX1_choose_0 rfl (z := 21) rfl (k_iln hK (q := 2)  dX1_choose_1 rfl (z := e) rfl (k_iln hK (q := 3)  dX1_choose_2 rfl (z := p) rfl ?_))
  refine k_iv2 hK (q := 6) dX1_choose_3 rfl rm_X1_152 rfl rfl (Nat.le_of_ble_eq_true rfl) (xc_plays _ M e p S hs hS hA he hv hrr) (fun r9 M9 h9 => ?_)
  rcases h9 with ⟨q, hq1, rfl, hM9⟩ | ⟨hq1, rfl, hM9⟩
  · skip
    show K 6 [some (vR 21), some (vI e), some (vI p)] [vI 1] M9
    refine k_ifne hK (q := 9) (t := 27) dX1_choose_6 rfl rfl (fun _ => ?_) (fun h6 => absurd h6 (by decide))
    refine k_vr hK dX1_choose_27 rfl ?_
    refine ⟨rfl, ?_⟩
    rw [hM9, hso]
    unfold opt
    rw [hq1]
  · rw [hM9]
    show K 6 [some (vR 21), some (vI e), some (vI p)] [vI 0] M
    refine k_ifne hK (q := 9) (t := 27) dX1_choose_6 rfl rfl (fun h6 => absurd h6 (by decide)) (fun _ => ?_)
    refine k_aln hK (q := 10)  dX1_choose_9 rfl (z := 21) rfl (k_iln hK (q := 11)  dX1_choose_10 rfl (z := e) rfl (k_iln hK (q := 12)  dX1_choose_11 rfl (z := p) rfl ?_))
    refine k_iv2 hK (q := 15) dX1_choose_12 rfl rm_X1_156 rfl rfl (Nat.le_of_ble_eq_true rfl) (xc_stays _ M e p S hs hS hA he hv hrr) (fun r9 M9 h9 => ?_)
    rcases h9 with ⟨hx, rfl, hM9⟩ | ⟨hx, rfl, hM9⟩
    · skip
      show K 15 [some (vR 21), some (vI e), some (vI p)] [vI 1] M9
      refine k_ifne hK (q := 18) (t := 27) dX1_choose_15 rfl rfl (fun _ => ?_) (fun h15 => absurd h15 (by decide))
      refine k_vr hK dX1_choose_27 rfl ?_
      refine ⟨rfl, ?_⟩
      rw [hM9, hso]
      unfold opt
      rw [hq1]
      simp only
      rw [if_pos hx]
    · rw [hM9]
      show K 15 [some (vR 21), some (vI e), some (vI p)] [vI 0] M
      refine k_ifne hK (q := 18) (t := 27) dX1_choose_15 rfl rfl (fun h15 => absurd h15 (by decide)) (fun _ => ?_)
      refine k_aln hK (q := 19)  dX1_choose_18 rfl (z := 21) rfl (k_iln hK (q := 20)  dX1_choose_19 rfl (z := e) rfl (k_iln hK (q := 21)  dX1_choose_20 rfl (z := p) rfl ?_))
      refine k_iv2 hK (q := 24) dX1_choose_21 rfl rm_X1_159 rfl rfl (Nat.le_of_ble_eq_true rfl) (xc_passes _ M e p S hs hS hA he hv hrr) (fun r9 M9 h9 => ?_)
      rcases h9 with ⟨q, hq2, rfl, hM9⟩ | ⟨hq2, rfl, hM9⟩
      · skip
        show K 24 [some (vR 21), some (vI e), some (vI p)] [vI 1] M9
        refine k_ifeq hK (q := 27) (t := 28) dX1_choose_24 rfl rfl (fun h24 => absurd h24 (by decide)) (fun _ => ?_)
        refine k_vr hK dX1_choose_27 rfl ?_
        refine ⟨rfl, ?_⟩
        rw [hM9, hso]
        unfold opt
        rw [hq1]
        simp only
        rw [if_neg hx, hq2]
      · rw [hM9]
        show K 24 [some (vR 21), some (vI e), some (vI p)] [vI 0] M
        refine k_ifeq hK (q := 27) (t := 28) dX1_choose_24 rfl rfl (fun _ => ?_) (fun h24 => absurd h24 (by decide))
        refine k_aln hK (q := 29)  dX1_choose_28 rfl (z := 21) rfl (k_iln hK (q := 30)  dX1_choose_29 rfl (z := e) rfl (k_iln hK (q := 31)  dX1_choose_30 rfl (z := p) rfl ?_))
        refine k_iv2 hK (q := 34) dX1_choose_31 rfl rm_X1_162 rfl rfl (Nat.le_of_ble_eq_true rfl) (xc_leaps _ M e p S hs hS hA he hv hrr) (fun r9 M9 h9 => ?_)
        rcases h9 with ⟨q, hq3, rfl, hM9⟩ | ⟨hq3, rfl, hM9⟩
        · skip
          show K 34 [some (vR 21), some (vI e), some (vI p)] [vI 1] M9
          refine k_pop hK (q := 35)  dX1_choose_34 rfl rfl ?_
          refine k_vr hK dX1_choose_35 rfl ?_
          refine ⟨rfl, ?_⟩
          rw [hM9, hso]
          unfold opt
          rw [hq1]
          simp only
          rw [if_neg hx, hq2]
          simp only
          rw [hq3]
        · rw [hM9]
          show K 34 [some (vR 21), some (vI e), some (vI p)] [vI 0] M
          refine k_pop hK (q := 35)  dX1_choose_34 rfl rfl ?_
          refine k_vr hK dX1_choose_35 rfl ?_
          exact (opt_no hrs hq1 hx hq2 hq3).elim
