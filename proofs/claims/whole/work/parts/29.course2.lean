/-! the STEPS, in the class -/
def T23 (M : ra_M) : Int → Int → Int := fun e p => M 23 (e * 61 + p + 1)
theorem Eu_pre (S : Sc) {n m : Nat} (h : n ≤ m) : ∃ r, Eu S m = Eu S n ++ r := by
  induction h with
  | refl => exact ⟨[], by simp⟩
  | step _ ih => obtain ⟨r, hr⟩ := ih; exact ⟨r ++ _, by simp only [Eu]; rw [hr, List.append_assoc]⟩
theorem Eu_vp {S : Sc} {p : Int} (hv : vp S p) : Eu S ((p + 1).toNat + 1) = Eu S (p + 1).toNat ++ (nx S p).map (fun q => (p, q.1, q.2)) := by
  have h1 : (((p + 1).toNat : Nat) : Int) - 1 = p := by rcases hv with h | h <;> omega
  simp only [Eu]
  rw [h1, if_pos]
  rcases hv with h | h
  · left; omega
  · right; exact h
theorem El_at {S : Sc} (hS : okSc S) {p : Int} (hv : vp S p) {t : Nat} {q : Int × Int} (hq : (nx S p)[t]? = some q) : (El S)[(Eu S (p + 1).toNat).length + t]? = some (p, q.1, q.2) := by
  have h0 := hS.1
  obtain ⟨r, hr⟩ := Eu_pre S (n := (p + 1).toNat + 1) (m := (S 0 0).toNat + 1) (by rcases hv with h | h <;> omega)
  unfold El
  rw [hr, Eu_vp hv, List.append_assoc, List.getElem?_append_right (by omega), show (Eu S (p + 1).toNat).length + t - (Eu S (p + 1).toNat).length = t by omega]
  have hlt := (List.getElem?_eq_some_iff.mp hq).1
  rw [List.getElem?_append_left (by simpa using hlt), List.getElem?_map, hq]
  rfl
theorem NxA_ends {M : ra_M} {S : Sc} (hS : okSc S) (h : NxA M S) {p : Int} (hv : vp S p) : M 14 (p + 1) = ((Eu S (p + 1).toNat).length : Nat) ∧ M 14 (p + 2) = ((Eu S (p + 1).toNat).length + (nx S p).length : Nat) := by
  have h0 := hS.1
  have hb : -1 ≤ p ∧ p < S 0 0 := by rcases hv with q | q <;> omega
  have h1 := h.2 (p + 1).toNat (by omega)
  have h2 := h.2 ((p + 1).toNat + 1) (by omega)
  rw [Eu_vp hv, List.length_append, List.length_map] at h2
  rw [show (((p + 1).toNat : Nat) : Int) = p + 1 by omega] at h1
  rw [show (((p + 1).toNat + 1 : Nat) : Int) = p + 2 by omega] at h2
  exact ⟨h1, h2⟩

set_option maxRecDepth 20000 in
set_option maxHeartbeats 2000000 in
theorem plays_loop {d : Nat} {Q : Option ra_V → ra_M → Prop} {K : Nat → ra_L → List ra_V → ra_M → Prop} (hK : ra_Clo (Ex (d + 2)) m_X1_plays cX1_plays Q K) {S : Sc} (hS : okSc S) {M : ra_M} (hs : scC M = S) {e p : Int} (hA : NxA M S) {ls : List St4} (hw : WS S (M 8) M ls e) (he : 0 ≤ e ∧ e < 120) (hv : vp S p) (hl : ls.length < 7320) (hrr : ∀ e2 p2, e ≤ e2 → e2 ≤ e + 1 → vp S p2 → 0 ≤ M 23 (e2 * 61 + p2 + 1) ∧ M 23 (e2 * 61 + p2 + 1) ≤ 200000)
    (hQ : ∀ r M2, (fun (r : Option ra_V) (M2 : ra_M) => (∃ q, (nx S p).find? (okP S (M 8) (T23 M) e p) = some q ∧ r = some (vI 1) ∧ WS S (M 8) M2 (ls ++ [(0, q.1, e, q.2 + wr S q.1 (M 8 e))]) (e + 1) ∧ frW M M2) ∨ ((nx S p).find? (okP S (M 8) (T23 M) e p) = none ∧ r = some (vI 0) ∧ M2 = M)) r M2 → Q r M2) :
    ∀ (l pre : List (Int × Int)) (i : Nat), nx S p = pre ++ l → i = (Eu S (p + 1).toNat).length + pre.length → (nx S p).find? (okP S (M 8) (T23 M) e p) = l.find? (okP S (M 8) (T23 M) e p) → K 9 [some (vR 22), some (vI e), some (vI p), some (vI (i : Nat)), none, none] [] M := by
  have hs0 := hS.1
  have hpb : -1 ≤ p ∧ p < 60 := by rcases hv with h | h <;> omega
  obtain ⟨b1, b2⟩ := NxA_ends hS hA hv
  have hrp := hrr e p (by omega) (by omega) hv
  have hrp1 := hrr (e + 1) p (by omega) (by omega) hv
  have k1 := hS.2.2.2.2.2.2.2.1 1 (by omega) (by omega)
  have k2 := hS.2.2.2.2.2.2.2.1 2 (by omega) (by omega)
  have k4 := hS.2.2.2.2.2.2.2.1 4 (by omega) (by omega)
  intro l
  induction l with
  | nil =>
    intro pre i hl2 hi hf
    have hln : (nx S p).length = pre.length := by rw [hl2]; simp
    refine k_iln hK (q := 10)  dX1_plays_9 rfl (z := (i : Nat)) rfl (k_aln hK (q := 11)  dX1_plays_10 rfl (z := 22) rfl (k_gR hK (q := 14) (r := 10) dX1_plays_11 rfl rf_X1_34 rfl rfl (k_iln hK (q := 15)  dX1_plays_14 rfl (z := p) rfl ?_)))
    refine k_iv1I hK (q := 18) dX1_plays_15 rfl rm_X1_145 rfl rfl (Nat.le_of_ble_eq_true rfl) (t_endOf _ M p hpb) ?_
    refine k_cge hK (q := 21) (t := 78) dX1_plays_18 rfl rfl (fun h18 => ?_) (fun h18 => ?_)
    · refine k_ic hK (q := 79)  dX1_plays_78 rfl (by decide) ?_
      refine k_irz hK dX1_plays_79 rfl (by decide) ?_
      exact hQ _ M (Or.inr ⟨by rw [hf]; rfl, rfl, rfl⟩)
    · exact absurd h18 (by omega)
  | cons q l ih =>
    intro pre i hl2 hi hf
    obtain ⟨y, c⟩ := q
    have hln : (nx S p).length = pre.length + (l.length + 1) := by rw [hl2]; simp
    have hq : (nx S p)[pre.length]? = some (y, c) := by rw [hl2]; simp
    have hE : (El S)[i]? = some (p, y, c) := by rw [hi]; exact El_at hS hv hq
    have hl74 := El_len hS
    have hil := (List.getElem?_eq_some_iff.mp hE).1
    obtain ⟨g11, g12, g13⟩ := hA.1.2 i _ hE
    simp only at g11 g12 g13
    have hm := nx_mem hS (List.mem_of_getElem? hq)
    simp only at hm
    have hwr := wr_in hS y (M 8 e)
    have hry := hrr e y (by omega) (by omega) (Or.inr hm.1)
    have hry1 := hrr (e + 1) y (by omega) (by omega) (Or.inr hm.1)
    refine k_iln hK (q := 10)  dX1_plays_9 rfl (z := (i : Nat)) rfl (k_aln hK (q := 11)  dX1_plays_10 rfl (z := 22) rfl (k_gR hK (q := 14) (r := 10) dX1_plays_11 rfl rf_X1_34 rfl rfl (k_iln hK (q := 15)  dX1_plays_14 rfl (z := p) rfl ?_)))
    refine k_iv1I hK (q := 18) dX1_plays_15 rfl rm_X1_145 rfl rfl (Nat.le_of_ble_eq_true rfl) (t_endOf _ M p hpb) ?_
    refine k_cge hK (q := 21) (t := 78) dX1_plays_18 rfl rfl (fun h18 => ?_) (fun h18 => ?_)
    · exact absurd h18 (by omega)
    · refine k_aln hK (q := 22)  dX1_plays_21 rfl (z := 22) rfl (k_gR hK (q := 25) (r := 10) dX1_plays_22 rfl rf_X1_34 rfl rfl (k_gR hK (q := 28) (r := 12) dX1_plays_25 rfl rf_X1_84 rfl rfl (k_iln hK (q := 29)  dX1_plays_28 rfl (z := (i : Nat)) rfl (k_ald hK (q := 30)  dX1_plays_29 rfl (y := M 12 (i : Nat)) rfl (by omega) rfl ?_))))
      rw [g12]
      refine k_is hK (q := 32)  dX1_plays_30 rfl (L2 := [some (vR 22), some (vI e), some (vI p), some (vI (i : Nat)), some (vI y), none]) (Nat.le_of_ble_eq_true rfl) rfl (k_aln hK (q := 33)  dX1_plays_32 rfl (z := 22) rfl (k_iln hK (q := 34)  dX1_plays_33 rfl (z := (i : Nat)) rfl (k_iln hK (q := 35)  dX1_plays_34 rfl (z := e) rfl ?_)))
      refine k_iv2I hK (q := 38) dX1_plays_35 rfl rm_X1_108 rfl rfl (Nat.le_of_ble_eq_true rfl) (xc_playPrice _ M e S hs hS i p y c hA.1 hE he) ?_
      refine k_is hK (q := 40)  dX1_plays_38 rfl (L2 := [some (vR 22), some (vI e), some (vI p), some (vI (i : Nat)), some (vI y), some (vI (c + wr S y (M 8 e)))]) (Nat.le_of_ble_eq_true rfl) rfl (k_il hK (q := 42)  dX1_plays_40 rfl (z := (c + wr S y (M 8 e))) rfl (k_aln hK (q := 43)  dX1_plays_42 rfl (z := 22) rfl (k_iln hK (q := 44)  dX1_plays_43 rfl (z := e) rfl (k_ic hK (q := 45)  dX1_plays_44 rfl (by decide) (k_add hK (q := 46)  dX1_plays_45 rfl (z := e + 1) rfl (by omega) ?_)))))
      refine k_il hK (q := 48)  dX1_plays_46 rfl (z := y) rfl ?_
      refine k_iv2I hK (q := 51) dX1_plays_48 rfl rm_X1_60 rfl rfl (Nat.le_of_ble_eq_true rfl) (xc_restAt _ M (e + 1) y (by omega) (by omega)) ?_
      refine k_add hK (q := 52)  dX1_plays_51 rfl (z := (c + wr S y (M 8 e)) + (M 23 ((e + 1) * 61 + y + 1))) rfl (by omega) (k_aln hK (q := 53)  dX1_plays_52 rfl (z := 22) rfl (k_iln hK (q := 54)  dX1_plays_53 rfl (z := e) rfl (k_iln hK (q := 55)  dX1_plays_54 rfl (z := p) rfl ?_)))
      refine k_iv2I hK (q := 58) dX1_plays_55 rfl rm_X1_60 rfl rfl (Nat.le_of_ble_eq_true rfl) (xc_restAt _ M e p (by omega) (by omega)) ?_
      refine k_cne hK (q := 61) (t := 72) dX1_plays_58 rfl rfl (fun h58 => ?_) (fun h58 => ?_)
      · refine k_inc hK (q := 75)  dX1_plays_72 rfl (y := (i : Nat) + 1) (L2 := [some (vR 22), some (vI e), some (vI p), some (vI ((i : Nat) + 1)), some (vI y), some (vI (c + wr S y (M 8 e)))]) rfl rfl (by omega) rfl (k_goto hK (t := 9) dX1_plays_75 rfl ?_)
        refine k_weak hK (L2 := [some (vR 22), some (vI e), some (vI p), some (vI ((i : Nat) + 1)), none, none]) ⟨Or.inl rfl, Or.inl rfl, Or.inl rfl, Or.inl rfl, Or.inr rfl, Or.inr rfl, trivial⟩ ?_
        exact ih (pre ++ [(y, c)]) (i + 1) (by rw [hl2, List.append_assoc]; rfl) (by simp; omega) (by rw [hf, List.find?_cons, show okP S (M 8) (T23 M) e p (y, c) = false from decide_eq_false h58])
      · refine k_aln hK (q := 62)  dX1_plays_61 rfl (z := 22) rfl (k_ic hK (q := 63)  dX1_plays_62 rfl (by decide) (k_il hK (q := 65)  dX1_plays_63 rfl (z := y) rfl (k_iln hK (q := 66)  dX1_plays_65 rfl (z := e) rfl (k_il hK (q := 68)  dX1_plays_66 rfl (z := (c + wr S y (M 8 e))) rfl ?_))))
        refine k_iv4 hK (q := 71) dX1_plays_68 rfl rm_X1_148 rfl rfl (Nat.le_of_ble_eq_true rfl) (xc_match _ M 0 y e (c + wr S y (M 8 e)) S hs hS ls hw (Or.inl rfl) (by omega) he (by omega) hl) (fun r9 M5 h9 => ?_)
        obtain ⟨rfl, hw5, hf5⟩ := h9
        show K 71 [some (vR 22), some (vI e), some (vI p), some (vI (i : Nat)), some (vI y), some (vI (c + wr S y (M 8 e)))] [vI 1] M5
        refine k_irz hK dX1_plays_71 rfl (by decide) ?_
        refine hQ _ M5 (Or.inl ⟨(y, c), ?_, rfl, hw5, hf5⟩)
        rw [hf, List.find?_cons, show okP S (M 8) (T23 M) e p (y, c) = true from decide_eq_true h58]

set_option maxRecDepth 20000 in
set_option maxHeartbeats 2000000 in
theorem xc_plays (d : Nat) (M : ra_M) (e p : Int) (S : Sc) (hs : scC M = S) (hS : okSc S) (hA : NxA M S) (ls : List St4) (hw : WS S (M 8) M ls e) (he : 0 ≤ e ∧ e < 120) (hv : vp S p) (hl : ls.length < 7320) (hrr : ∀ e2 p2, e ≤ e2 → e2 ≤ e + 1 → vp S p2 → 0 ≤ M 23 (e2 * 61 + p2 + 1) ∧ M 23 (e2 * 61 + p2 + 1) ≤ 200000) : Ex (d + 3) m_X1_plays [vR 22, vI e, vI p] M (fun (r : Option ra_V) (M2 : ra_M) => (∃ q, (nx S p).find? (okP S (M 8) (T23 M) e p) = some q ∧ r = some (vI 1) ∧ WS S (M 8) M2 (ls ++ [(0, q.1, e, q.2 + wr S q.1 (M 8 e))]) (e + 1) ∧ frW M M2) ∨ ((nx S p).find? (okP S (M 8) (T23 M) e p) = none ∧ r = some (vI 0) ∧ M2 = M)) := by
  refine Ex_call (Nat.le_of_ble_eq_true rfl) (fun K hK => ?_)
  show K 0 [some (vR 22), some (vI e), some (vI p), none, none, none] [] M
  have hK : ra_Clo _ m_X1_plays cX1_plays _ K := hK
  have hs0 := hS.1
  have hpb : -1 ≤ p ∧ p < 60 := by rcases hv with h | h <;> omega
  obtain ⟨b1, b2⟩ := NxA_ends hS hA hv
  have hrp := hrr e p (by omega) (by omega) hv
  have hrp1 := hrr (e + 1) p (by omega) (by omega) hv
  refine k_aln hK (q := 1)  dX1_plays_0 rfl (z := 22) rfl (k_gR hK (q := 4) (r := 10) dX1_plays_1 rfl rf_X1_34 rfl rfl (k_iln hK (q := 5)  dX1_plays_4 rfl (z := p) rfl ?_))
  refine k_iv1I hK (q := 8) dX1_plays_5 rfl rm_X1_142 rfl rfl (Nat.le_of_ble_eq_true rfl) (t_beginOf _ M p hpb) ?_
  rw [b1]
  refine k_isn hK (q := 9)  dX1_plays_8 rfl (L2 := [some (vR 22), some (vI e), some (vI p), some (vI ((Eu S (p + 1).toNat).length : Nat)), none, none]) (Nat.le_of_ble_eq_true rfl) rfl ?_
  exact plays_loop hK hS hs hA hw he hv hl hrr (fun r M2 h => h) (nx S p) [] _ rfl (by simp) rfl

set_option maxRecDepth 20000 in
set_option maxHeartbeats 2000000 in
theorem passes_loop {d : Nat} {Q : Option ra_V → ra_M → Prop} {K : Nat → ra_L → List ra_V → ra_M → Prop} (hK : ra_Clo (Ex (d + 2)) m_X1_passes cX1_passes Q K) {S : Sc} (hS : okSc S) {M : ra_M} (hs : scC M = S) {e p : Int} (hA : NxA M S) {ls : List St4} (hw : WS S (M 8) M ls e) (he : 0 ≤ e ∧ e < 120) (hv : vp S p) (hl : ls.length < 7320) (hrr : ∀ e2 p2, e ≤ e2 → e2 ≤ e + 1 → vp S p2 → 0 ≤ M 23 (e2 * 61 + p2 + 1) ∧ M 23 (e2 * 61 + p2 + 1) ≤ 200000)
    (hQ : ∀ r M2, (fun (r : Option ra_V) (M2 : ra_M) => (∃ q, (nx S p).find? (okJ S (T23 M) e p) = some q ∧ r = some (vI 1) ∧ WS S (M 8) M2 (ls ++ [(2, q.1, -1, q.2 + S 5 2)]) e ∧ frW M M2) ∨ ((nx S p).find? (okJ S (T23 M) e p) = none ∧ r = some (vI 0) ∧ M2 = M)) r M2 → Q r M2) :
    ∀ (l pre : List (Int × Int)) (i : Nat), nx S p = pre ++ l → i = (Eu S (p + 1).toNat).length + pre.length → (nx S p).find? (okJ S (T23 M) e p) = l.find? (okJ S (T23 M) e p) → K 9 [some (vR 22), some (vI e), some (vI p), some (vI (i : Nat)), none, none] [] M := by
  have hs0 := hS.1
  have hpb : -1 ≤ p ∧ p < 60 := by rcases hv with h | h <;> omega
  obtain ⟨b1, b2⟩ := NxA_ends hS hA hv
  have hrp := hrr e p (by omega) (by omega) hv
  have hrp1 := hrr (e + 1) p (by omega) (by omega) hv
  have k1 := hS.2.2.2.2.2.2.2.1 1 (by omega) (by omega)
  have k2 := hS.2.2.2.2.2.2.2.1 2 (by omega) (by omega)
  have k4 := hS.2.2.2.2.2.2.2.1 4 (by omega) (by omega)
  intro l
  induction l with
  | nil =>
    intro pre i hl2 hi hf
    have hln : (nx S p).length = pre.length := by rw [hl2]; simp
    refine k_iln hK (q := 10)  dX1_passes_9 rfl (z := (i : Nat)) rfl (k_aln hK (q := 11)  dX1_passes_10 rfl (z := 22) rfl (k_gR hK (q := 14) (r := 10) dX1_passes_11 rfl rf_X1_34 rfl rfl (k_iln hK (q := 15)  dX1_passes_14 rfl (z := p) rfl ?_)))
    refine k_iv1I hK (q := 18) dX1_passes_15 rfl rm_X1_145 rfl rfl (Nat.le_of_ble_eq_true rfl) (t_endOf _ M p hpb) ?_
    refine k_cge hK (q := 21) (t := 86) dX1_passes_18 rfl rfl (fun h18 => ?_) (fun h18 => ?_)
    · refine k_ic hK (q := 87)  dX1_passes_86 rfl (by decide) ?_
      refine k_irz hK dX1_passes_87 rfl (by decide) ?_
      exact hQ _ M (Or.inr ⟨by rw [hf]; rfl, rfl, rfl⟩)
    · exact absurd h18 (by omega)
  | cons q l ih =>
    intro pre i hl2 hi hf
    obtain ⟨y, c⟩ := q
    have hln : (nx S p).length = pre.length + (l.length + 1) := by rw [hl2]; simp
    have hq : (nx S p)[pre.length]? = some (y, c) := by rw [hl2]; simp
    have hE : (El S)[i]? = some (p, y, c) := by rw [hi]; exact El_at hS hv hq
    have hl74 := El_len hS
    have hil := (List.getElem?_eq_some_iff.mp hE).1
    obtain ⟨g11, g12, g13⟩ := hA.1.2 i _ hE
    simp only at g11 g12 g13
    have hm := nx_mem hS (List.mem_of_getElem? hq)
    simp only at hm
    have hwr := wr_in hS y (M 8 e)
    have hry := hrr e y (by omega) (by omega) (Or.inr hm.1)
    have hry1 := hrr (e + 1) y (by omega) (by omega) (Or.inr hm.1)
    refine k_iln hK (q := 10)  dX1_passes_9 rfl (z := (i : Nat)) rfl (k_aln hK (q := 11)  dX1_passes_10 rfl (z := 22) rfl (k_gR hK (q := 14) (r := 10) dX1_passes_11 rfl rf_X1_34 rfl rfl (k_iln hK (q := 15)  dX1_passes_14 rfl (z := p) rfl ?_)))
    refine k_iv1I hK (q := 18) dX1_passes_15 rfl rm_X1_145 rfl rfl (Nat.le_of_ble_eq_true rfl) (t_endOf _ M p hpb) ?_
    refine k_cge hK (q := 21) (t := 86) dX1_passes_18 rfl rfl (fun h18 => ?_) (fun h18 => ?_)
    · exact absurd h18 (by omega)
    · refine k_aln hK (q := 22)  dX1_passes_21 rfl (z := 22) rfl (k_gR hK (q := 25) (r := 10) dX1_passes_22 rfl rf_X1_34 rfl rfl (k_gR hK (q := 28) (r := 12) dX1_passes_25 rfl rf_X1_84 rfl rfl (k_iln hK (q := 29)  dX1_passes_28 rfl (z := (i : Nat)) rfl (k_ald hK (q := 30)  dX1_passes_29 rfl (y := M 12 (i : Nat)) rfl (by omega) rfl ?_))))
      rw [g12]
      refine k_is hK (q := 32)  dX1_passes_30 rfl (L2 := [some (vR 22), some (vI e), some (vI p), some (vI (i : Nat)), some (vI y), none]) (Nat.le_of_ble_eq_true rfl) rfl (k_aln hK (q := 33)  dX1_passes_32 rfl (z := 22) rfl (k_iln hK (q := 34)  dX1_passes_33 rfl (z := (i : Nat)) rfl ?_))
      refine k_iv1I hK (q := 37) dX1_passes_34 rfl rm_X1_118 rfl rfl (Nat.le_of_ble_eq_true rfl) (xc_passPrice _ M S hs hS i p y c hA.1 hE) ?_
      refine k_is hK (q := 39)  dX1_passes_37 rfl (L2 := [some (vR 22), some (vI e), some (vI p), some (vI (i : Nat)), some (vI y), some (vI (c + S 5 2))]) (Nat.le_of_ble_eq_true rfl) rfl (k_il hK (q := 41)  dX1_passes_39 rfl (z := (c + S 5 2)) rfl (k_aln hK (q := 42)  dX1_passes_41 rfl (z := 22) rfl (k_iln hK (q := 43)  dX1_passes_42 rfl (z := e) rfl (k_il hK (q := 45)  dX1_passes_43 rfl (z := y) rfl ?_))))
      refine k_iv2I hK (q := 48) dX1_passes_45 rfl rm_X1_60 rfl rfl (Nat.le_of_ble_eq_true rfl) (xc_restAt _ M e y (by omega) (by omega)) ?_
      refine k_add hK (q := 49)  dX1_passes_48 rfl (z := (c + S 5 2) + (M 23 (e * 61 + y + 1))) rfl (by omega) (k_aln hK (q := 50)  dX1_passes_49 rfl (z := 22) rfl (k_iln hK (q := 51)  dX1_passes_50 rfl (z := e) rfl (k_iln hK (q := 52)  dX1_passes_51 rfl (z := p) rfl ?_)))
      refine k_iv2I hK (q := 55) dX1_passes_52 rfl rm_X1_60 rfl rfl (Nat.le_of_ble_eq_true rfl) (xc_restAt _ M e p (by omega) (by omega)) ?_
      refine k_cne hK (q := 58) (t := 80) dX1_passes_55 rfl rfl (fun h55 => ?_) (fun h55 => ?_)
      · refine k_inc hK (q := 83)  dX1_passes_80 rfl (y := (i : Nat) + 1) (L2 := [some (vR 22), some (vI e), some (vI p), some (vI ((i : Nat) + 1)), some (vI y), some (vI (c + S 5 2))]) rfl rfl (by omega) rfl (k_goto hK (t := 9) dX1_passes_83 rfl ?_)
        refine k_weak hK (L2 := [some (vR 22), some (vI e), some (vI p), some (vI ((i : Nat) + 1)), none, none]) ⟨Or.inl rfl, Or.inl rfl, Or.inl rfl, Or.inl rfl, Or.inr rfl, Or.inr rfl, trivial⟩ ?_
        exact ih (pre ++ [(y, c)]) (i + 1) (by rw [hl2, List.append_assoc]; rfl) (by simp; omega) (by rw [hf, List.find?_cons, show okJ S (T23 M) e p (y, c) = false from decide_eq_false h55])
      · have h9y := hw.2.1 y (by omega) (by omega)
        have h10 := List.countP_le_length (p := fun s : St4 => decide (s.1 = 2 ∧ s.2.1 = y)) (l := ls)
        have hcs : M 28 y = cPs y ls := h9y.2.2
        unfold cPs at hcs
        have hl2c := hw.1.1
        refine k_aln hK (q := 59)  dX1_passes_58 rfl (z := 22) rfl (k_gR hK (q := 62) (r := 28) dX1_passes_59 rfl rf_X1_27 rfl rfl (k_il hK (q := 64)  dX1_passes_62 rfl (z := y) rfl (k_dup2 hK (q := 65)  dX1_passes_64 rfl rfl rfl (k_ald hK (q := 66)  dX1_passes_65 rfl (y := M 28 y) rfl (by omega) rfl (k_ic hK (q := 67)  dX1_passes_66 rfl (by decide) ?_)))))
        refine k_add hK (q := 68)  dX1_passes_67 rfl (z := (M 28 y) + 1) rfl (by omega) (k_ast hK (q := 69)  dX1_passes_68 rfl rfl (by omega) (k_aln hK (q := 70)  dX1_passes_69 rfl (z := 22) rfl (k_ic hK (q := 71)  dX1_passes_70 rfl (by decide) (k_il hK (q := 73)  dX1_passes_71 rfl (z := y) rfl (k_ic hK (q := 74)  dX1_passes_73 rfl (by decide) ?_)))))
        refine k_il hK (q := 76)  dX1_passes_74 rfl (z := (c + S 5 2)) rfl ?_
        refine k_iv4I hK (q := 79) dX1_passes_76 rfl rm_X1_152 rfl rfl (Nat.le_of_ble_eq_true rfl) (xc_keepStep _ (up M 28 y ((M 28 y) + 1)) 2 y (-1) (c + S 5 2) (by simp only [okSt]; omega) (by simp [up]; omega)) ?_
        refine k_irz hK dX1_passes_79 rfl (by decide) ?_
        refine hQ _ _ (Or.inl ⟨(y, c), by rw [hf, List.find?_cons, show okJ S (T23 M) e p (y, c) = true from decide_eq_true h55], rfl, ⟨CO_app hw.1 (by simp [up]) (by funext j; simp [up]), fun t a b => ?_, fun t a b => ?_, fun s hs2 => ?_⟩, ⟨frX_up (frX_up (frX_up (frX_refl _ _) _ _ (by decide)) _ _ (by decide)) _ _ (by decide), fun j hj => by simp [up, hj]⟩⟩)
        · have h9 := hw.2.1 t a b
          rw [cPl_app, cRt_app, cPs_app]
          simp only
          rw [if_neg (fun q => by have := q.1; omega), if_neg (fun q => by have := q.1.1; omega)]
          by_cases ht : t = y
          · subst ht
            rw [if_pos (by simp)]
            refine ⟨?_, ?_, ?_⟩ <;> simp [up] <;> omega
          · rw [if_neg (fun q => ht q.2.symm)]
            refine ⟨?_, ?_, ?_⟩ <;> simp [up, ht] <;> omega
        · rw [mtF_app]
          simp only
          rw [if_neg (fun q => by have := q.1; omega), ← hw.2.2.1 t a (by omega)]
          simp [up]
        · rcases List.mem_append.mp hs2 with q | q
          · exact hw.2.2.2 s q
          · have := List.mem_singleton.mp q; subst this; exact ⟨by simp only [okSt]; omega, by simp only; omega⟩

set_option maxRecDepth 20000 in
set_option maxHeartbeats 2000000 in
theorem xc_passes (d : Nat) (M : ra_M) (e p : Int) (S : Sc) (hs : scC M = S) (hS : okSc S) (hA : NxA M S) (ls : List St4) (hw : WS S (M 8) M ls e) (he : 0 ≤ e ∧ e < 120) (hv : vp S p) (hl : ls.length < 7320) (hrr : ∀ e2 p2, e ≤ e2 → e2 ≤ e + 1 → vp S p2 → 0 ≤ M 23 (e2 * 61 + p2 + 1) ∧ M 23 (e2 * 61 + p2 + 1) ≤ 200000) : Ex (d + 3) m_X1_passes [vR 22, vI e, vI p] M (fun (r : Option ra_V) (M2 : ra_M) => (∃ q, (nx S p).find? (okJ S (T23 M) e p) = some q ∧ r = some (vI 1) ∧ WS S (M 8) M2 (ls ++ [(2, q.1, -1, q.2 + S 5 2)]) e ∧ frW M M2) ∨ ((nx S p).find? (okJ S (T23 M) e p) = none ∧ r = some (vI 0) ∧ M2 = M)) := by
  refine Ex_call (Nat.le_of_ble_eq_true rfl) (fun K hK => ?_)
  show K 0 [some (vR 22), some (vI e), some (vI p), none, none, none] [] M
  have hK : ra_Clo _ m_X1_passes cX1_passes _ K := hK
  have hs0 := hS.1
  have hpb : -1 ≤ p ∧ p < 60 := by rcases hv with h | h <;> omega
  obtain ⟨b1, b2⟩ := NxA_ends hS hA hv
  have hrp := hrr e p (by omega) (by omega) hv
  have hrp1 := hrr (e + 1) p (by omega) (by omega) hv
  refine k_aln hK (q := 1)  dX1_passes_0 rfl (z := 22) rfl (k_gR hK (q := 4) (r := 10) dX1_passes_1 rfl rf_X1_34 rfl rfl (k_iln hK (q := 5)  dX1_passes_4 rfl (z := p) rfl ?_))
  refine k_iv1I hK (q := 8) dX1_passes_5 rfl rm_X1_142 rfl rfl (Nat.le_of_ble_eq_true rfl) (t_beginOf _ M p hpb) ?_
  rw [b1]
  refine k_isn hK (q := 9)  dX1_passes_8 rfl (L2 := [some (vR 22), some (vI e), some (vI p), some (vI ((Eu S (p + 1).toNat).length : Nat)), none, none]) (Nat.le_of_ble_eq_true rfl) rfl ?_
  exact passes_loop hK hS hs hA hw he hv hl hrr (fun r M2 h => h) (nx S p) [] _ rfl (by simp) rfl

set_option maxRecDepth 20000 in
set_option maxHeartbeats 2000000 in
theorem xc_stays (d : Nat) (M : ra_M) (e p : Int) (S : Sc) (hs : scC M = S) (hS : okSc S) (hA : NxA M S) (ls : List St4) (hw : WS S (M 8) M ls e) (he : 0 ≤ e ∧ e < 120) (hv : vp S p) (hl : ls.length < 7320) (hrr : ∀ e2 p2, e ≤ e2 → e2 ≤ e + 1 → vp S p2 → 0 ≤ M 23 (e2 * 61 + p2 + 1) ∧ M 23 (e2 * 61 + p2 + 1) ≤ 200000) : Ex (d + 1) m_X1_stays [vR 22, vI e, vI p] M (fun (r : Option ra_V) (M2 : ra_M) => (S 5 1 + T23 M (e + 1) p = T23 M e p ∧ r = some (vI 1) ∧ WS S (M 8) M2 (ls ++ [(1, p, e, S 5 1)]) (e + 1) ∧ frW M M2) ∨ (¬ S 5 1 + T23 M (e + 1) p = T23 M e p ∧ r = some (vI 0) ∧ M2 = M)) := by
  refine Ex_call (Nat.le_of_ble_eq_true rfl) (fun K hK => ?_)
  show K 0 [some (vR 22), some (vI e), some (vI p), none] [] M
  have hK : ra_Clo _ m_X1_stays cX1_stays _ K := hK
  have hs0 := hS.1
  have hpb : -1 ≤ p ∧ p < 60 := by rcases hv with h | h <;> omega
  obtain ⟨b1, b2⟩ := NxA_ends hS hA hv
  have hrp := hrr e p (by omega) (by omega) hv
  have hrp1 := hrr (e + 1) p (by omega) (by omega) hv
  have k1 := hS.2.2.2.2.2.2.2.1 1 (by omega) (by omega)
  have k2 := hS.2.2.2.2.2.2.2.1 2 (by omega) (by omega)
  have k4 := hS.2.2.2.2.2.2.2.1 4 (by omega) (by omega)
  obtain ⟨a2, a3, a4, a5, a6⟩ := scC_a hs
  have hcl := hw.1.1
  refine k_aln hK (q := 1)  dX1_stays_0 rfl (z := 22) rfl (k_gR hK (q := 4) (r := 1) dX1_stays_1 rfl rf_X1_30 rfl rfl (k_gR hK (q := 7) (r := 6) dX1_stays_4 rfl rf_X1_93 rfl rfl (k_ic hK (q := 8)  dX1_stays_7 rfl (by decide) (k_ald hK (q := 9)  dX1_stays_8 rfl (y := M 6 1) rfl (by omega) rfl ?_))))
  rw [a6]
  refine k_isn hK (q := 10)  dX1_stays_9 rfl (L2 := [some (vR 22), some (vI e), some (vI p), some (vI (S 5 1))]) (Nat.le_of_ble_eq_true rfl) rfl (k_iln hK (q := 11)  dX1_stays_10 rfl (z := (S 5 1)) rfl (k_aln hK (q := 12)  dX1_stays_11 rfl (z := 22) rfl (k_iln hK (q := 13)  dX1_stays_12 rfl (z := e) rfl (k_ic hK (q := 14)  dX1_stays_13 rfl (by decide) (k_add hK (q := 15)  dX1_stays_14 rfl (z := e + 1) rfl (by omega) ?_)))))
  refine k_iln hK (q := 16)  dX1_stays_15 rfl (z := p) rfl ?_
  refine k_iv2I hK (q := 19) dX1_stays_16 rfl rm_X1_60 rfl rfl (Nat.le_of_ble_eq_true rfl) (xc_restAt _ M (e + 1) p (by omega) (by omega)) ?_
  refine k_add hK (q := 20)  dX1_stays_19 rfl (z := (S 5 1) + (M 23 ((e + 1) * 61 + p + 1))) rfl (by omega) (k_aln hK (q := 21)  dX1_stays_20 rfl (z := 22) rfl (k_iln hK (q := 22)  dX1_stays_21 rfl (z := e) rfl (k_iln hK (q := 23)  dX1_stays_22 rfl (z := p) rfl ?_)))
  refine k_iv2I hK (q := 26) dX1_stays_23 rfl rm_X1_60 rfl rfl (Nat.le_of_ble_eq_true rfl) (xc_restAt _ M e p (by omega) (by omega)) ?_
  refine k_ceq hK (q := 29) (t := 31) dX1_stays_26 rfl rfl (fun h26 => ?_) (fun h26 => ?_)
  · refine k_aln hK (q := 32)  dX1_stays_31 rfl (z := 22) rfl (k_gR hK (q := 35) (r := 25) dX1_stays_32 rfl rf_X1_18 rfl rfl (k_iln hK (q := 36)  dX1_stays_35 rfl (z := e) rfl (k_ic hK (q := 37)  dX1_stays_36 rfl (by decide) (k_ast hK (q := 38)  dX1_stays_37 rfl rfl (by omega) (k_aln hK (q := 39)  dX1_stays_38 rfl (z := 22) rfl ?_)))))
    refine k_ic hK (q := 40)  dX1_stays_39 rfl (by decide) (k_iln hK (q := 41)  dX1_stays_40 rfl (z := p) rfl (k_iln hK (q := 42)  dX1_stays_41 rfl (z := e) rfl (k_iln hK (q := 43)  dX1_stays_42 rfl (z := (S 5 1)) rfl ?_)))
    refine k_iv4I hK (q := 46) dX1_stays_43 rfl rm_X1_152 rfl rfl (Nat.le_of_ble_eq_true rfl) (xc_keepStep _ (up M 25 e (-1)) 1 p e (S 5 1) (by simp only [okSt]; omega) (by simp [up]; omega)) ?_
    refine k_irz hK dX1_stays_46 rfl (by decide) ?_
    refine Or.inl ⟨h26, rfl, ⟨CO_app hw.1 (by simp [up]) (by funext j; simp [up]), fun t a b => ?_, fun t a b => ?_, fun s hs2 => ?_⟩, ⟨frX_up (frX_up (frX_up (frX_refl _ _) _ _ (by decide)) _ _ (by decide)) _ _ (by decide), fun j hj => by simp [up, hj]⟩⟩
    · have h9 := hw.2.1 t a b
      rw [cPl_app, cRt_app, cPs_app]
      simp only
      rw [if_neg (fun q => by have := q.1; omega), if_neg (fun q => by have := q.1.1; omega), if_neg (fun q => by have := q.1; omega)]
      refine ⟨?_, ?_, ?_⟩ <;> simp [up] <;> omega
    · rw [mtF_app]
      simp only
      rw [if_neg (fun q => q.2 rfl)]
      by_cases ht : t = e
      · subst ht
        have := mtF_none ls t (-1) (fun s hs3 => by have := (hw.2.2.2 s hs3).2; omega)
        unfold mtF
        rw [this]
        simp [up]
      · rw [← hw.2.2.1 t a (by omega)]
        simp [up, ht]
    · rcases List.mem_append.mp hs2 with q | q
      · have := hw.2.2.2 s q; exact ⟨this.1, by omega⟩
      · have := List.mem_singleton.mp q; subst this; exact ⟨by simp only [okSt]; omega, by simp only; omega⟩
  · refine k_ic hK (q := 30)  dX1_stays_29 rfl (by decide) ?_
    refine k_irz hK dX1_stays_30 rfl (by decide) ?_
    exact Or.inr ⟨h26, rfl, rfl⟩

theorem find_first {p : Nat → Bool} {n m : Nat} (h : n < m) (h1 : ∀ i, i < n → p i = false) (h2 : p n = true) : (List.range m).find? p = some n := by
  rw [List.find?_range_eq_some]
  exact ⟨h2, List.mem_range.mpr h, fun j hj => by simpa using h1 j hj⟩

set_option maxRecDepth 20000 in
set_option maxHeartbeats 2000000 in
theorem leaps_loop {d : Nat} {Q : Option ra_V → ra_M → Prop} {K : Nat → ra_L → List ra_V → ra_M → Prop} (hK : ra_Clo (Ex (d + 2)) m_X1_leaps cX1_leaps Q K) {S : Sc} (hS : okSc S) {M : ra_M} (hs : scC M = S) {e p : Int} (hA : NxA M S) {ls : List St4} (hw : WS S (M 8) M ls e) (he : 0 ≤ e ∧ e < 120) (hv : vp S p) (hl : ls.length < 7320) (hrr : ∀ e2 p2, e ≤ e2 → e2 ≤ e + 1 → vp S p2 → 0 ≤ M 23 (e2 * 61 + p2 + 1) ∧ M 23 (e2 * 61 + p2 + 1) ≤ 200000) {fi la : Int} (hth : ∀ n : Int, thr S n ↔ fi ≤ n ∧ n ≤ la) (hfl : 0 ≤ fi ∧ fi ≤ la + 1 ∧ la < S 0 0) (hlaS : la = (if S 0 2 ≠ -1 then S 0 3 else S 0 0 - 1))
    (hQ : ∀ r M2, (fun (r : Option ra_V) (M2 : ra_M) => (∃ n : Nat, (List.range (S 0 0).toNat).find? (okH S (M 8) (T23 M) e p) = some n ∧ r = some (vI 1) ∧ WS S (M 8) M2 (ls ++ [((3, ((n : Nat) : Int), e, S 5 4 + wr S (n : Nat) (M 8 e)) : St4)]) (e + 1) ∧ frW M M2) ∨ ((List.range (S 0 0).toNat).find? (okH S (M 8) (T23 M) e p) = none ∧ r = some (vI 0) ∧ M2 = M)) r M2 → Q r M2) :
    ∀ (m n : Nat), (n : Int) + m = la + 1 → fi ≤ (n : Int) → (∀ i, i < n → okH S (M 8) (T23 M) e p i = false) → K 8 [some (vR 22), some (vI e), some (vI p), some (vI (n : Nat)), none] [] M := by
  have hs0 := hS.1
  have hpb : -1 ≤ p ∧ p < 60 := by rcases hv with h | h <;> omega
  obtain ⟨b1, b2⟩ := NxA_ends hS hA hv
  have hrp := hrr e p (by omega) (by omega) hv
  have hrp1 := hrr (e + 1) p (by omega) (by omega) hv
  have k1 := hS.2.2.2.2.2.2.2.1 1 (by omega) (by omega)
  have k2 := hS.2.2.2.2.2.2.2.1 2 (by omega) (by omega)
  have k4 := hS.2.2.2.2.2.2.2.1 4 (by omega) (by omega)
  obtain ⟨e5, e6, e7, e8, e9⟩ := scC_e hs
  have hla : (if M 1 7 ≠ -1 then M 1 8 else M 1 5 - 1) = la := by rw [e5, e7, e8, hlaS]
  intro m
  induction m with
  | zero =>
    intro n hi hfi hno
    refine k_iln hK (q := 9)  dX1_leaps_8 rfl (z := (n : Nat)) rfl (k_aln hK (q := 10)  dX1_leaps_9 rfl (z := 22) rfl (k_gR hK (q := 13) (r := 1) dX1_leaps_10 rfl rf_X1_30 rfl rfl ?_))
    refine k_iv0I hK (q := 16) dX1_leaps_13 rfl rm_X1_101 rfl rfl (Nat.le_of_ble_eq_true rfl) (t_lastThere _ M (by omega)) ?_
    rw [hla]
    refine k_cgt hK (q := 19) (t := 63) dX1_leaps_16 rfl rfl (fun h16 => ?_) (fun h16 => ?_)
    · refine k_ic hK (q := 64)  dX1_leaps_63 rfl (by decide) ?_
      refine k_irz hK dX1_leaps_64 rfl (by decide) ?_
      refine hQ _ M (Or.inr ⟨?_, rfl, rfl⟩)
      refine List.find?_eq_none.mpr (fun i hi => ?_)
      rw [List.mem_range] at hi
      by_cases h : i < n
      · rw [hno i h]; decide
      · unfold okH
        have : ¬ thr S (i : Nat) := fun q => by have := (hth (i : Nat)).mp q; omega
        simp [this]
    · exact absurd h16 (by omega)
  | succ m ih =>
    intro n hi hfi hno
    have ht : thr S (n : Nat) := (hth (n : Nat)).mpr (by omega)
    have hwr := wr_in hS (n : Nat) (M 8 e)
    have hrn := hrr (e + 1) (n : Nat) (by omega) (by omega) (Or.inr ht)
    refine k_iln hK (q := 9)  dX1_leaps_8 rfl (z := (n : Nat)) rfl (k_aln hK (q := 10)  dX1_leaps_9 rfl (z := 22) rfl (k_gR hK (q := 13) (r := 1) dX1_leaps_10 rfl rf_X1_30 rfl rfl ?_))
    refine k_iv0I hK (q := 16) dX1_leaps_13 rfl rm_X1_101 rfl rfl (Nat.le_of_ble_eq_true rfl) (t_lastThere _ M (by omega)) ?_
    rw [hla]
    refine k_cgt hK (q := 19) (t := 63) dX1_leaps_16 rfl rfl (fun h16 => ?_) (fun h16 => ?_)
    · exact absurd h16 (by omega)
    · refine k_aln hK (q := 20)  dX1_leaps_19 rfl (z := 22) rfl (k_iln hK (q := 21)  dX1_leaps_20 rfl (z := (n : Nat)) rfl (k_iln hK (q := 22)  dX1_leaps_21 rfl (z := e) rfl ?_))
      refine k_iv2I hK (q := 25) dX1_leaps_22 rfl rm_X1_104 rfl rfl (Nat.le_of_ble_eq_true rfl) (xc_leapPrice _ M (n : Nat) e S hs hS (by omega) he) ?_
      refine k_is hK (q := 27)  dX1_leaps_25 rfl (L2 := [some (vR 22), some (vI e), some (vI p), some (vI (n : Nat)), some (vI (S 5 4 + wr S (n : Nat) (M 8 e)))]) (Nat.le_of_ble_eq_true rfl) rfl (k_il hK (q := 29)  dX1_leaps_27 rfl (z := (S 5 4 + wr S (n : Nat) (M 8 e))) rfl (k_aln hK (q := 30)  dX1_leaps_29 rfl (z := 22) rfl (k_iln hK (q := 31)  dX1_leaps_30 rfl (z := e) rfl (k_ic hK (q := 32)  dX1_leaps_31 rfl (by decide) (k_add hK (q := 33)  dX1_leaps_32 rfl (z := e + 1) rfl (by omega) ?_)))))
      refine k_iln hK (q := 34)  dX1_leaps_33 rfl (z := (n : Nat)) rfl ?_
      refine k_iv2I hK (q := 37) dX1_leaps_34 rfl rm_X1_60 rfl rfl (Nat.le_of_ble_eq_true rfl) (xc_restAt _ M (e + 1) (n : Nat) (by omega) (by omega)) ?_
      refine k_add hK (q := 38)  dX1_leaps_37 rfl (z := (S 5 4 + wr S (n : Nat) (M 8 e)) + (M 23 ((e + 1) * 61 + (n : Nat) + 1))) rfl (by omega) (k_aln hK (q := 39)  dX1_leaps_38 rfl (z := 22) rfl (k_iln hK (q := 40)  dX1_leaps_39 rfl (z := e) rfl (k_iln hK (q := 41)  dX1_leaps_40 rfl (z := p) rfl ?_)))
      refine k_iv2I hK (q := 44) dX1_leaps_41 rfl rm_X1_60 rfl rfl (Nat.le_of_ble_eq_true rfl) (xc_restAt _ M e p (by omega) (by omega)) ?_
      refine k_cne hK (q := 47) (t := 57) dX1_leaps_44 rfl rfl (fun h44 => ?_) (fun h44 => ?_)
      · refine k_inc hK (q := 60)  dX1_leaps_57 rfl (y := (n : Nat) + 1) (L2 := [some (vR 22), some (vI e), some (vI p), some (vI ((n : Nat) + 1)), some (vI (S 5 4 + wr S (n : Nat) (M 8 e)))]) rfl rfl (by omega) rfl (k_goto hK (t := 8) dX1_leaps_60 rfl ?_)
        refine k_weak hK (L2 := [some (vR 22), some (vI e), some (vI p), some (vI ((n : Nat) + 1)), none]) ⟨Or.inl rfl, Or.inl rfl, Or.inl rfl, Or.inl rfl, Or.inr rfl, trivial⟩ ?_
        refine ih (n + 1) (by omega) (by omega) (fun i hi => ?_)
        by_cases h : i = n
        · subst h
          exact decide_eq_false (fun q => h44 q.2)
        · exact hno i (by omega)
      · refine k_aln hK (q := 48)  dX1_leaps_47 rfl (z := 22) rfl (k_ic hK (q := 49)  dX1_leaps_48 rfl (by decide) (k_iln hK (q := 50)  dX1_leaps_49 rfl (z := (n : Nat)) rfl (k_iln hK (q := 51)  dX1_leaps_50 rfl (z := e) rfl (k_il hK (q := 53)  dX1_leaps_51 rfl (z := (S 5 4 + wr S (n : Nat) (M 8 e))) rfl ?_))))
        refine k_iv4 hK (q := 56) dX1_leaps_53 rfl rm_X1_148 rfl rfl (Nat.le_of_ble_eq_true rfl) (xc_match _ M 3 (n : Nat) e (S 5 4 + wr S (n : Nat) (M 8 e)) S hs hS ls hw (Or.inr rfl) (by omega) he (by omega) hl) (fun r9 M5 h9 => ?_)
        obtain ⟨rfl, hw5, hf5⟩ := h9
        show K 56 [some (vR 22), some (vI e), some (vI p), some (vI (n : Nat)), some (vI (S 5 4 + wr S (n : Nat) (M 8 e)))] [vI 1] M5
        refine k_irz hK dX1_leaps_56 rfl (by decide) ?_
        refine hQ _ M5 (Or.inl ⟨n, ?_, rfl, hw5, hf5⟩)
        refine find_first (by omega) hno ?_
        exact decide_eq_true ⟨ht, h44⟩

set_option maxRecDepth 20000 in
set_option maxHeartbeats 2000000 in
theorem xc_leaps (d : Nat) (M : ra_M) (e p : Int) (S : Sc) (hs : scC M = S) (hS : okSc S) (hA : NxA M S) (ls : List St4) (hw : WS S (M 8) M ls e) (he : 0 ≤ e ∧ e < 120) (hv : vp S p) (hl : ls.length < 7320) (hrr : ∀ e2 p2, e ≤ e2 → e2 ≤ e + 1 → vp S p2 → 0 ≤ M 23 (e2 * 61 + p2 + 1) ∧ M 23 (e2 * 61 + p2 + 1) ≤ 200000) : Ex (d + 3) m_X1_leaps [vR 22, vI e, vI p] M (fun (r : Option ra_V) (M2 : ra_M) => (∃ n : Nat, (List.range (S 0 0).toNat).find? (okH S (M 8) (T23 M) e p) = some n ∧ r = some (vI 1) ∧ WS S (M 8) M2 (ls ++ [((3, ((n : Nat) : Int), e, S 5 4 + wr S (n : Nat) (M 8 e)) : St4)]) (e + 1) ∧ frW M M2) ∨ ((List.range (S 0 0).toNat).find? (okH S (M 8) (T23 M) e p) = none ∧ r = some (vI 0) ∧ M2 = M)) := by
  refine Ex_call (Nat.le_of_ble_eq_true rfl) (fun K hK => ?_)
  show K 0 [some (vR 22), some (vI e), some (vI p), none, none] [] M
  have hK : ra_Clo _ m_X1_leaps cX1_leaps _ K := hK
  have hs0 := hS.1
  have hs2 := hS.2.2.1
  obtain ⟨e5, e6, e7, e8, e9⟩ := scC_e hs
  obtain ⟨fi, hfie⟩ : ∃ z, z = (if S 0 2 ≠ -1 then S 0 2 else 0) := ⟨_, rfl⟩
  obtain ⟨la, hla⟩ : ∃ z, z = (if S 0 2 ≠ -1 then S 0 3 else S 0 0 - 1) := ⟨_, rfl⟩
  have hth : ∀ n : Int, thr S n ↔ fi ≤ n ∧ n ≤ la := by
    intro n
    have := thr_C hs hS n
    rw [e5, e7, e8, ← hfie, ← hla] at this
    exact this.symm
  have hfl : 0 ≤ fi ∧ fi ≤ la + 1 ∧ la < S 0 0 := by
    split at hfie <;> split at hla <;> omega
  refine k_aln hK (q := 1)  dX1_leaps_0 rfl (z := 22) rfl (k_gR hK (q := 4) (r := 1) dX1_leaps_1 rfl rf_X1_30 rfl rfl ?_)
  refine k_iv0I hK (q := 7) dX1_leaps_4 rfl rm_X1_97 rfl rfl (Nat.le_of_ble_eq_true rfl) (t_firstThere _ M) ?_
  have hfi : (if M 1 7 ≠ -1 then M 1 7 else 0) = ((fi.toNat : Nat) : Int) := by rw [e7]; omega
  rw [hfi]
  refine k_isn hK (q := 8)  dX1_leaps_7 rfl (L2 := [some (vR 22), some (vI e), some (vI p), some (vI (fi.toNat : Nat)), none]) (Nat.le_of_ble_eq_true rfl) rfl ?_
  exact leaps_loop hK hS hs hA hw he hv hl hrr hth hfl hla (fun r M2 h => h) (la + 1 - fi).toNat fi.toNat (by omega) (by omega) (fun i hi => decide_eq_false (fun q => by have := (hth (i : Nat)).mp q.1; omega))
