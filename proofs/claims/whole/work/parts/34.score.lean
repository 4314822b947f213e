/-! the class's own methods: the score -/
def aNote (S : Sc) (cnt : Int) (hp ht : Int → Int) (ses : Int) (bx du : Int → Int) (al : Al8) (p s : Int) : Int × Stt := if ¬ ((0 ≤ p ∧ p ≤ 127) ∧ (0 ≤ s ∧ s ≤ 1000000) ∧ lastS S < s) then (-2, (S, cnt, hp, ht, ses, bx, du, al)) else if 0 < cnt ∨ S 0 2 ≠ -1 then (-3, (S, cnt, hp, ht, ses, bx, du, al)) else if 60 ≤ S 0 0 then (-4, (S, cnt, hp, ht, ses, bx, du, al)) else (S 0 0, (addN S p s, cnt, hp, ht, ses, fU bx (S 0 0) 0, fU du (S 0 0) 0, al))
def aWay (S : Sc) (cnt : Int) (hp ht : Int → Int) (ses : Int) (bx du : Int → Int) (al : Al8) (f g : Int) : Int × Stt := if ¬ ((0 ≤ f ∧ f < S 0 0) ∧ (0 ≤ g ∧ g < S 0 0) ∧ g ≠ f + 1 ∧ hwB S f g (S 0 1).toNat = false) then (-2, (S, cnt, hp, ht, ses, bx, du, al)) else if 0 < cnt then (-3, (S, cnt, hp, ht, ses, bx, du, al)) else if 12 ≤ S 0 1 then (-4, (S, cnt, hp, ht, ses, bx, du, al)) else (S 0 1, (addW S f g, cnt, hp, ht, ses, bx, du, al))
def aLoop (S : Sc) (cnt : Int) (hp ht : Int → Int) (ses : Int) (bx du : Int → Int) (al : Al8) (f g : Int) : Int × Stt := if f ≠ -1 ∧ ¬ (0 ≤ f ∧ f ≤ g ∧ g < S 0 0) then (-2, (S, cnt, hp, ht, ses, bx, du, al)) else if 0 < cnt then (-3, (S, cnt, hp, ht, ses, bx, du, al)) else (if S 0 2 ≠ -1 then 1 else 0, (up (up S 0 2 f) 0 3 (if f = -1 then -1 else g), cnt, hp, ht, ses, bx, du, al))
def aCost (S : Sc) (cnt : Int) (hp ht : Int → Int) (ses : Int) (bx du : Int → Int) (al : Al8) (w v : Int) : Int × Stt := if ¬ ((0 ≤ w ∧ w ≤ 4) ∧ (if w = 1 ∨ w = 2 then 1 else 0) ≤ v ∧ v ≤ 1000) then (-2, (S, cnt, hp, ht, ses, bx, du, al)) else if 0 < cnt then (-3, (S, cnt, hp, ht, ses, bx, du, al)) else (S 5 w, (up S 5 w v, cnt, hp, ht, ses, bx, du, al))
def aSpan (S : Sc) (cnt : Int) (hp ht : Int → Int) (ses : Int) (bx du : Int → Int) (al : Al8) (s : Int) : Int × Stt := if ¬ (0 ≤ s ∧ s ≤ 100) then (-2, (S, cnt, hp, ht, ses, bx, du, al)) else if 0 < cnt then (-3, (S, cnt, hp, ht, ses, bx, du, al)) else (S 0 4, (up S 0 4 s, cnt, hp, ht, ses, bx, du, al))

theorem PC_same {S : Sc} {cnt : Int} {hp ht : Int → Int} {ses : Int} {bx du : Int → Int} {al : Al8} {M : ra_M} {c : Int} {q : Int × Stt} (h : q = (c, (S, cnt, hp, ht, ses, bx, du, al))) (hI : IC S cnt hp ht ses bx du al M) : PC M q (some (vI c)) M := by
  rw [h]
  exact ⟨rfl, hI, clF_refl M⟩
theorem AlS_0 {S : Sc} {hp : Int → Int} {sum : Int} {ls : List St4} (h : AlS S hp 0 sum ls) : sum = 0 ∧ ls = [] := by
  obtain ⟨R, h1, h2, h3⟩ := h
  refine ⟨by rw [h3]; exact h1.1 (-1) (Or.inl rfl), ?_⟩
  rw [h2, show (7320 : Nat) = 7319 + 1 from rfl]
  simp [wk]
theorem AlS_of0 {S : Sc} {hp : Int → Int} {sum : Int} {ls : List St4} (h1 : sum = 0) (h2 : ls = []) : AlS S hp 0 sum ls := by
  refine ⟨fun _ _ => 0, ⟨fun _ _ => rfl, fun e a b => by omega⟩, ?_, h1⟩
  rw [h2, show (7320 : Nat) = 7319 + 1 from rfl]
  simp [wk]
theorem FlC_z {S : Sc} {hp : Int → Int} {M : ra_M} (h : ∀ j, 0 ≤ j → j ≤ 60 → M 16 j = v00 j) (h5 : M 15 5 = -1) (h2 : S 0 0 ≤ 60) : FlC S hp 0 M := ⟨⟨fun j hj => h j hj.1 (by have := hj.2; omega), h5⟩, fun _ => h⟩
theorem FlC_0 {S S2 : Sc} {hp hp2 : Int → Int} {M : ra_M} (h : FlC S hp 0 M) (h2 : S2 0 0 ≤ 60) : FlC S2 hp2 0 M := FlC_z (h.2 rfl) h.1.2 h2
theorem AlC_0 {S S2 : Sc} {hp hp2 : Int → Int} {al : Al8} {M : ra_M} (h : AlC S hp 0 al M) (h2 : ∀ q, al = some q → q.2 = []) : AlC S2 hp2 0 al M := by
  cases al with
  | none => exact h
  | some q =>
    have h3 := h2 q rfl
    obtain ⟨b1, b2, b3, b4⟩ := h
    refine ⟨b1, b2, ⟨b3.1, fun n x y => ?_, fun ev x y => by omega, b3.2.2.2⟩, fun q => absurd q (by omega)⟩
    have h4 := b3.2.1 n x y
    rw [h3] at h4 ⊢
    simpa [cPl, cRt, cPs] using h4
theorem IC_score {S S2 : Sc} {cnt : Int} {hp ht : Int → Int} {ses : Int} {bx du bx2 du2 : Int → Int} {al : Al8} {M M2 : ra_M} (hI : IC S cnt hp ht ses bx du al M) (h0 : cnt = 0) (hal : ∀ q, al = some q → AlS S hp cnt q.1 q.2) (h2 : S2 0 0 ≤ 60) (h1 : scC M2 = S2) (hf : ∀ k, 7 ≤ k → k < 30 → M2 k = M k) (hb : M2 30 = bx2) (hd : M2 31 = du2) : IC S2 cnt hp ht ses bx2 du2 al M2 := by
  subst h0
  obtain ⟨hs, ⟨g7, g8, g9⟩, ⟨g29, g30, g31⟩, hN, hF, hA, hL⟩ := hI
  refine ⟨h1, ⟨?_, ?_, ?_⟩, ⟨?_, hb, hd⟩, fun q => absurd q (by omega), FlC_f (FlC_0 hF h2) (hf 16 (by omega) (by omega)) (by rw [hf 15 (by omega) (by omega)]), AnC_f hA (by rw [hf 18 (by omega) (by omega)]) (hf 19 (by omega) (by omega)) (hf 20 (by omega) (by omega)), AlC_f (AlC_0 hL (fun q hq => (AlS_0 (hal q hq)).2)) (fun k a b => hf k (by omega) (by omega)) (fun j _ => by rw [hf 21 (by omega) (by omega)])⟩
  · rw [hf 7 (by omega) (by omega)]; exact g7
  · rw [hf 8 (by omega) (by omega)]; exact g8
  · rw [hf 9 (by omega) (by omega)]; exact g9
  · rw [hf 29 (by omega) (by omega)]; exact g29

set_option maxRecDepth 20000 in
set_option maxHeartbeats 2000000 in
theorem xc_note (d t : Nat) (M : ra_M) (S : Sc) (cnt : Int) (hp ht : Int → Int) (ses : Int) (bx du : Int → Int) (al : Al8) (hI : IC S cnt hp ht ses bx du al M) (hw : WF t S cnt hp ht ses bx al) (p s : Int) : Ex (d + 1) m_X7_note [vR 0, vI p, vI s] M (PC M (aNote S cnt hp ht ses bx du al p s)) := by
  refine Ex_call (Nat.le_of_ble_eq_true rfl) (fun K hK => ?_)
  show K 0 [some (vR 0), some (vI p), some (vI s), none] [] M
  have hK : ra_Clo _ m_X7_note cX7_note _ K := hK
  have hI0 := hI
  obtain ⟨hs, ⟨g7, g8, g9⟩, ⟨g29, g30, g31⟩, hN, hF, hA, hL⟩ := hI
  obtain ⟨hS, hc, hnn, hh, hse, hbx, hal⟩ := hw
  obtain ⟨e5, e6, e7, e8, e9⟩ := scC_e hs
  obtain ⟨a2, a3, a4, a5, a6⟩ := scC_a hs
  have hs0 := hS.1
  have hs1 := hS.2.1
  have hs2 := hS.2.2.1
  have hls : (if M 1 5 = 0 then -1 else M 3 (M 1 5 - 1)) = lastS S := by unfold lastS; rw [e5, a3]
  refine k_iln hK (q := 1)  dX7_note_0 rfl (z := p) rfl (k_ic hK (q := 2)  dX7_note_1 rfl (by decide) (k_bp hK (q := 4)  dX7_note_2 rfl (by decide) ?_))
  refine k_st3I hK (q := 7) dX7_note_4 rfl rm_X7_74 (Nat.le_of_ble_eq_true rfl) (t_isWithin _ M p 0 127) ?_
  refine k_ifeq hK (q := 10) (t := 20) dX7_note_7 rfl rfl (fun h7 => ?_) (fun h7 => ?_)
  · have h7 := bi_0.mp h7
    refine k_bp hK (q := 22)  dX7_note_20 rfl (by decide) ?_
    refine k_ir hK dX7_note_22 rfl ?_
    refine PC_same (c := -2) ?_ hI0
    unfold aNote
    rw [if_pos (by omega)]
  · have h7 := bi_1.mp h7
    refine k_iln hK (q := 11)  dX7_note_10 rfl (z := s) rfl (k_ic hK (q := 12)  dX7_note_11 rfl (by decide) (k_ldc hK (q := 14)  dX7_note_12 rfl rc_X7_78 ?_))
    refine k_st3I hK (q := 17) dX7_note_14 rfl rm_X7_74 (Nat.le_of_ble_eq_true rfl) (t_isWithin _ M s 0 1000000) ?_
    refine k_ifne hK (q := 20) (t := 23) dX7_note_17 rfl rfl (fun h17 => ?_) (fun h17 => ?_)
    · have h17 := bi_1.mp h17
      refine k_iln hK (q := 24)  dX7_note_23 rfl (z := s) rfl (k_aln hK (q := 25)  dX7_note_24 rfl (z := 0) rfl (k_gR hK (q := 28) (r := 1) dX7_note_25 rfl rf_X7_12 rfl rfl ?_))
      refine k_iv0I hK (q := 31) dX7_note_28 rfl rm_X7_79 rfl rfl (Nat.le_of_ble_eq_true rfl) (t_lastStart _ M (by omega)) ?_
      refine k_cgt hK (q := 34) (t := 37) dX7_note_31 rfl rfl (fun h31 => ?_) (fun h31 => ?_)
      · refine k_aln hK (q := 38)  dX7_note_37 rfl (z := 0) rfl (k_gR hK (q := 41) (r := 7) dX7_note_38 rfl rf_X7_19 rfl rfl (k_gI hK (q := 44) (z := M 7 2) 0 dX7_note_41 rfl rf_X7_83 rfl rfl rfl rfl ?_))
        refine k_ifgt hK (q := 47) (t := 57) dX7_note_44 rfl rfl (fun h44 => ?_) (fun h44 => ?_)
        · refine k_bp hK (q := 59)  dX7_note_57 rfl (by decide) ?_
          refine k_ir hK dX7_note_59 rfl ?_
          refine PC_same (c := -3) ?_ hI0
          unfold aNote
          rw [if_neg (by omega)]
          rw [if_pos (by omega)]
        · refine k_aln hK (q := 48)  dX7_note_47 rfl (z := 0) rfl (k_gR hK (q := 51) (r := 1) dX7_note_48 rfl rf_X7_12 rfl rfl ?_)
          refine k_iv0I hK (q := 54) dX7_note_51 rfl rm_X7_86 rfl rfl (Nat.le_of_ble_eq_true rfl) (t_hasLoop _ M) ?_
          refine k_ifeq hK (q := 57) (t := 60) dX7_note_54 rfl rfl (fun h54 => ?_) (fun h54 => ?_)
          · have h54 := bi_0.mp h54
            refine k_aln hK (q := 61)  dX7_note_60 rfl (z := 0) rfl (k_gR hK (q := 64) (r := 1) dX7_note_61 rfl rf_X7_12 rfl rfl (k_gI hK (q := 67) (z := M 1 5) 0 dX7_note_64 rfl rf_X7_90 rfl rfl rfl rfl (k_bp hK (q := 69)  dX7_note_67 rfl (by decide) ?_)))
            refine k_clt hK (q := 72) (t := 75) dX7_note_69 rfl rfl (fun h69 => ?_) (fun h69 => ?_)
            · refine k_aln hK (q := 76)  dX7_note_75 rfl (z := 0) rfl (k_gR hK (q := 79) (r := 1) dX7_note_76 rfl rf_X7_12 rfl rfl (k_iln hK (q := 80)  dX7_note_79 rfl (z := p) rfl (k_iln hK (q := 81)  dX7_note_80 rfl (z := s) rfl ?_)))
              refine k_iv2I hK (q := 84) dX7_note_81 rfl rm_X7_93 rfl rfl (Nat.le_of_ble_eq_true rfl) (t_addNote _ M p s (by omega)) ?_
              refine k_isn hK (q := 85)  dX7_note_84 rfl (L2 := [some (vR 0), some (vI p), some (vI s), some (vI (M 1 5))]) (Nat.le_of_ble_eq_true rfl) rfl (k_aln hK (q := 86)  dX7_note_85 rfl (z := 0) rfl (k_gR hK (q := 89) (r := 29) dX7_note_86 rfl rf_X7_60 rfl rfl (k_iln hK (q := 90)  dX7_note_89 rfl (z := (M 1 5)) rfl ?_)))
              refine k_iv1V hK (q := 93) dX7_note_90 rfl rm_X7_97 rfl rfl (Nat.le_of_ble_eq_true rfl) (t_open _ (up (up (up M 2 (M 1 5) p) 3 (M 1 5) s) 1 5 (M 1 5 + 1)) (M 1 5) (by omega)) ?_
              refine k_iln hK (q := 94)  dX7_note_93 rfl (z := (M 1 5)) rfl ?_
              refine k_ir hK dX7_note_94 rfl ?_
              have hc0 : cnt = 0 := by omega
              unfold aNote
              rw [if_neg (by omega), if_neg (by omega), if_neg (by omega)]
              refine ⟨by rw [e5], IC_score hI0 hc0 hal (by simp [addN, up]; omega) ?_ (by intro k a b; simp only [up_k _ _ _ (show k ≠ 1 by omega), up_k _ _ _ (show k ≠ 2 by omega), up_k _ _ _ (show k ≠ 3 by omega), up_k _ _ _ (show k ≠ 4 by omega), up_k _ _ _ (show k ≠ 5 by omega), up_k _ _ _ (show k ≠ 6 by omega), up_k _ _ _ (show k ≠ 30 by omega), up_k _ _ _ (show k ≠ 31 by omega)]) ?_ ?_, clF_up (clF_up (clF_up (clF_up (clF_up (clF_refl _) _ _ (by omega)) _ _ (by omega)) _ _ (by omega)) _ _ (by omega)) _ _ (by omega)⟩
              · rw [scC_o _ _ _ (by omega), scC_o _ _ _ (by omega), scC_u0, scC_a3, scC_a2, hs, e5]
                rfl
              · rw [up_k _ _ _ (by omega), up_fU, e5]
                congr 1
              · rw [up_fU, e5]
                congr 1
            · refine k_bp hK (q := 74)  dX7_note_72 rfl (by decide) ?_
              refine k_ir hK dX7_note_74 rfl ?_
              refine PC_same (c := -4) ?_ hI0
              unfold aNote
              rw [if_neg (by omega)]
              rw [if_neg (by omega)]
              rw [if_pos (by omega)]
          · have h54 := bi_1.mp h54
            refine k_bp hK (q := 59)  dX7_note_57 rfl (by decide) ?_
            refine k_ir hK dX7_note_59 rfl ?_
            refine PC_same (c := -3) ?_ hI0
            unfold aNote
            rw [if_neg (by omega)]
            rw [if_pos (by omega)]
      · refine k_bp hK (q := 36)  dX7_note_34 rfl (by decide) ?_
        refine k_ir hK dX7_note_36 rfl ?_
        refine PC_same (c := -2) ?_ hI0
        unfold aNote
        rw [if_pos (by omega)]
    · have h17 := bi_0.mp h17
      refine k_bp hK (q := 22)  dX7_note_20 rfl (by decide) ?_
      refine k_ir hK dX7_note_22 rfl ?_
      refine PC_same (c := -2) ?_ hI0
      unfold aNote
      rw [if_pos (by omega)]

set_option maxRecDepth 20000 in
set_option maxHeartbeats 2000000 in
theorem xc_way (d t : Nat) (M : ra_M) (S : Sc) (cnt : Int) (hp ht : Int → Int) (ses : Int) (bx du : Int → Int) (al : Al8) (hI : IC S cnt hp ht ses bx du al M) (hw : WF t S cnt hp ht ses bx al) (f g : Int) : Ex (d + 1) m_X7_way [vR 0, vI f, vI g] M (PC M (aWay S cnt hp ht ses bx du al f g)) := by
  refine Ex_call (Nat.le_of_ble_eq_true rfl) (fun K hK => ?_)
  show K 0 [some (vR 0), some (vI f), some (vI g)] [] M
  have hK : ra_Clo _ m_X7_way cX7_way _ K := hK
  have hI0 := hI
  obtain ⟨hs, ⟨g7, g8, g9⟩, ⟨g29, g30, g31⟩, hN, hF, hA, hL⟩ := hI
  obtain ⟨hS, hc, hnn, hh, hse, hbx, hal⟩ := hw
  obtain ⟨e5, e6, e7, e8, e9⟩ := scC_e hs
  obtain ⟨a2, a3, a4, a5, a6⟩ := scC_a hs
  have hs0 := hS.1
  have hs1 := hS.2.1
  have hs2 := hS.2.2.1
  refine k_aln hK (q := 1)  dX7_way_0 rfl (z := 0) rfl (k_gR hK (q := 4) (r := 1) dX7_way_1 rfl rf_X7_12 rfl rfl (k_iln hK (q := 5)  dX7_way_4 rfl (z := f) rfl ?_))
  refine k_iv1I hK (q := 8) dX7_way_5 rfl rm_X7_101 rfl rfl (Nat.le_of_ble_eq_true rfl) (t_isNote _ M f) ?_
  refine k_ifeq hK (q := 11) (t := 22) dX7_way_8 rfl rfl (fun h8 => ?_) (fun h8 => ?_)
  · have h8 := bi_0.mp h8
    refine k_bp hK (q := 24)  dX7_way_22 rfl (by decide) ?_
    refine k_ir hK dX7_way_24 rfl ?_
    refine PC_same (c := -2) ?_ hI0
    unfold aWay
    rw [if_pos ?_]
    intro q
    have q1 := q.1
    have q2 := q.2.1
    omega
  · have h8 := bi_1.mp h8
    refine k_aln hK (q := 12)  dX7_way_11 rfl (z := 0) rfl (k_gR hK (q := 15) (r := 1) dX7_way_12 rfl rf_X7_12 rfl rfl (k_iln hK (q := 16)  dX7_way_15 rfl (z := g) rfl ?_))
    refine k_iv1I hK (q := 19) dX7_way_16 rfl rm_X7_101 rfl rfl (Nat.le_of_ble_eq_true rfl) (t_isNote _ M g) ?_
    refine k_ifne hK (q := 22) (t := 25) dX7_way_19 rfl rfl (fun h19 => ?_) (fun h19 => ?_)
    · have h19 := bi_1.mp h19
      refine k_iln hK (q := 26)  dX7_way_25 rfl (z := g) rfl (k_iln hK (q := 27)  dX7_way_26 rfl (z := f) rfl (k_ic hK (q := 28)  dX7_way_27 rfl (by decide) (k_add hK (q := 29)  dX7_way_28 rfl (z := f + 1) rfl (by omega) ?_)))
      refine k_ceq hK (q := 32) (t := 44) dX7_way_29 rfl rfl (fun h29 => ?_) (fun h29 => ?_)
      · refine k_bp hK (q := 46)  dX7_way_44 rfl (by decide) ?_
        refine k_ir hK dX7_way_46 rfl ?_
        refine PC_same (c := -2) ?_ hI0
        unfold aWay
        rw [if_pos ?_]
        intro q
        first | exact q.2.2.1 h29 | (rw [q.2.2.2] at h41; exact absurd h41 (by decide))
      · refine k_aln hK (q := 33)  dX7_way_32 rfl (z := 0) rfl (k_gR hK (q := 36) (r := 1) dX7_way_33 rfl rf_X7_12 rfl rfl (k_iln hK (q := 37)  dX7_way_36 rfl (z := f) rfl (k_iln hK (q := 38)  dX7_way_37 rfl (z := g) rfl ?_)))
        refine k_iv2I hK (q := 41) dX7_way_38 rfl rm_X7_105 rfl rfl (Nat.le_of_ble_eq_true rfl) (t_hasWay _ M f g S hs hS) ?_
        refine k_ifeq hK (q := 44) (t := 47) dX7_way_41 rfl rfl (fun h41 => ?_) (fun h41 => ?_)
        · have h41 := bi_0.mp h41
          refine k_aln hK (q := 48)  dX7_way_47 rfl (z := 0) rfl (k_gR hK (q := 51) (r := 7) dX7_way_48 rfl rf_X7_19 rfl rfl (k_gI hK (q := 54) (z := M 7 2) 0 dX7_way_51 rfl rf_X7_83 rfl rfl rfl rfl ?_))
          refine k_ifle hK (q := 57) (t := 60) dX7_way_54 rfl rfl (fun h54 => ?_) (fun h54 => ?_)
          · refine k_aln hK (q := 61)  dX7_way_60 rfl (z := 0) rfl (k_gR hK (q := 64) (r := 1) dX7_way_61 rfl rf_X7_12 rfl rfl (k_gI hK (q := 67) (z := M 1 6) 0 dX7_way_64 rfl rf_X7_109 rfl rfl rfl rfl (k_bp hK (q := 69)  dX7_way_67 rfl (by decide) ?_)))
            refine k_clt hK (q := 72) (t := 75) dX7_way_69 rfl rfl (fun h69 => ?_) (fun h69 => ?_)
            · refine k_aln hK (q := 76)  dX7_way_75 rfl (z := 0) rfl (k_gR hK (q := 79) (r := 1) dX7_way_76 rfl rf_X7_12 rfl rfl (k_iln hK (q := 80)  dX7_way_79 rfl (z := f) rfl (k_iln hK (q := 81)  dX7_way_80 rfl (z := g) rfl ?_)))
              refine k_iv2I hK (q := 84) dX7_way_81 rfl rm_X7_112 rfl rfl (Nat.le_of_ble_eq_true rfl) (t_addWay _ M f g (by omega)) ?_
              refine k_ir hK dX7_way_84 rfl ?_
              have hg : ((0 ≤ f ∧ f < S 0 0) ∧ (0 ≤ g ∧ g < S 0 0) ∧ g ≠ f + 1 ∧ hwB S f g (S 0 1).toNat = false) := ⟨by omega, by omega, h29, by simpa using h41⟩
              have hc0 : cnt = 0 := by omega
              unfold aWay
              rw [if_neg (fun q => q hg), if_neg (by omega), if_neg (by omega)]
              refine ⟨by rw [e6], IC_score hI0 hc0 hal (by simp [addW, up]; omega) ?_ (by intro k a b; simp only [up_k _ _ _ (show k ≠ 1 by omega), up_k _ _ _ (show k ≠ 2 by omega), up_k _ _ _ (show k ≠ 3 by omega), up_k _ _ _ (show k ≠ 4 by omega), up_k _ _ _ (show k ≠ 5 by omega), up_k _ _ _ (show k ≠ 6 by omega), up_k _ _ _ (show k ≠ 30 by omega), up_k _ _ _ (show k ≠ 31 by omega)]) ?_ ?_, clF_up (clF_up (clF_up (clF_refl _) _ _ (by omega)) _ _ (by omega)) _ _ (by omega)⟩
              · rw [scC_u1, scC_a5, scC_a4, hs, e6]
                rfl
              · rw [up_k _ _ _ (by omega), up_k _ _ _ (by omega), up_k _ _ _ (by omega)]
                exact g30
              · rw [up_k _ _ _ (by omega), up_k _ _ _ (by omega), up_k _ _ _ (by omega)]
                exact g31
            · refine k_bp hK (q := 74)  dX7_way_72 rfl (by decide) ?_
              refine k_ir hK dX7_way_74 rfl ?_
              have hg : ((0 ≤ f ∧ f < S 0 0) ∧ (0 ≤ g ∧ g < S 0 0) ∧ g ≠ f + 1 ∧ hwB S f g (S 0 1).toNat = false) := ⟨by omega, by omega, h29, by simpa using h41⟩
              refine PC_same (c := -4) ?_ hI0
              unfold aWay
              rw [if_neg (fun q => q hg), if_neg (by omega), if_pos (by omega)]
          · refine k_bp hK (q := 59)  dX7_way_57 rfl (by decide) ?_
            refine k_ir hK dX7_way_59 rfl ?_
            have hg : ((0 ≤ f ∧ f < S 0 0) ∧ (0 ≤ g ∧ g < S 0 0) ∧ g ≠ f + 1 ∧ hwB S f g (S 0 1).toNat = false) := ⟨by omega, by omega, h29, by simpa using h41⟩
            refine PC_same (c := -3) ?_ hI0
            unfold aWay
            rw [if_neg (fun q => q hg), if_pos (by omega)]
        · have h41 := bi_1.mp h41
          refine k_bp hK (q := 46)  dX7_way_44 rfl (by decide) ?_
          refine k_ir hK dX7_way_46 rfl ?_
          refine PC_same (c := -2) ?_ hI0
          unfold aWay
          rw [if_pos ?_]
          intro q
          first | exact q.2.2.1 h29 | (rw [q.2.2.2] at h41; exact absurd h41 (by decide))
    · have h19 := bi_0.mp h19
      refine k_bp hK (q := 24)  dX7_way_22 rfl (by decide) ?_
      refine k_ir hK dX7_way_24 rfl ?_
      refine PC_same (c := -2) ?_ hI0
      unfold aWay
      rw [if_pos ?_]
      intro q
      have q1 := q.1
      have q2 := q.2.1
      omega

set_option maxRecDepth 20000 in
set_option maxHeartbeats 2000000 in
theorem xc_loop (d t : Nat) (M : ra_M) (S : Sc) (cnt : Int) (hp ht : Int → Int) (ses : Int) (bx du : Int → Int) (al : Al8) (hI : IC S cnt hp ht ses bx du al M) (hw : WF t S cnt hp ht ses bx al) (f g : Int) : Ex (d + 1) m_X7_loop [vR 0, vI f, vI g] M (PC M (aLoop S cnt hp ht ses bx du al f g)) := by
  refine Ex_call (Nat.le_of_ble_eq_true rfl) (fun K hK => ?_)
  show K 0 [some (vR 0), some (vI f), some (vI g), none, none] [] M
  have hK : ra_Clo _ m_X7_loop cX7_loop _ K := hK
  have hI0 := hI
  obtain ⟨hs, ⟨g7, g8, g9⟩, ⟨g29, g30, g31⟩, hN, hF, hA, hL⟩ := hI
  obtain ⟨hS, hc, hnn, hh, hse, hbx, hal⟩ := hw
  obtain ⟨e5, e6, e7, e8, e9⟩ := scC_e hs
  obtain ⟨a2, a3, a4, a5, a6⟩ := scC_a hs
  have hs0 := hS.1
  have hs1 := hS.2.1
  have hs2 := hS.2.2.1
  refine k_iln hK (q := 1)  dX7_loop_0 rfl (z := f) rfl (k_ic hK (q := 2)  dX7_loop_1 rfl (by decide) ?_)
  refine k_cne hK (q := 5) (t := 9) dX7_loop_2 rfl rfl (fun h2 => ?_) (fun h2 => ?_)
  · refine k_ic hK (q := 10)  dX7_loop_9 rfl (by decide) (k_isn hK (q := 11)  dX7_loop_10 rfl (L2 := [some (vR 0), some (vI f), some (vI g), some (vI 0), none]) (Nat.le_of_ble_eq_true rfl) rfl (k_iln hK (q := 12)  dX7_loop_11 rfl (z := 0) rfl ?_))
    refine k_ifne hK (q := 15) (t := 45) dX7_loop_12 rfl rfl (fun h12 => absurd h12 (by decide)) (fun _ => ?_)
    refine k_aln hK (q := 16)  dX7_loop_15 rfl (z := 0) rfl (k_gR hK (q := 19) (r := 1) dX7_loop_16 rfl rf_X7_12 rfl rfl (k_iln hK (q := 20)  dX7_loop_19 rfl (z := f) rfl ?_))
    refine k_iv1I hK (q := 23) dX7_loop_20 rfl rm_X7_101 rfl rfl (Nat.le_of_ble_eq_true rfl) (t_isNote _ M f) ?_
    refine k_ifeq hK (q := 26) (t := 42) dX7_loop_23 rfl rfl (fun h23 => ?_) (fun h23 => ?_)
    · have h23 := bi_0.mp h23
      refine k_bp hK (q := 44)  dX7_loop_42 rfl (by decide) ?_
      refine k_ir hK dX7_loop_44 rfl ?_
      refine PC_same (c := -2) ?_ hI0
      unfold aLoop
      rw [if_pos (by omega)]
    · have h23 := bi_1.mp h23
      refine k_aln hK (q := 27)  dX7_loop_26 rfl (z := 0) rfl (k_gR hK (q := 30) (r := 1) dX7_loop_27 rfl rf_X7_12 rfl rfl (k_iln hK (q := 31)  dX7_loop_30 rfl (z := g) rfl ?_))
      refine k_iv1I hK (q := 34) dX7_loop_31 rfl rm_X7_101 rfl rfl (Nat.le_of_ble_eq_true rfl) (t_isNote _ M g) ?_
      refine k_ifeq hK (q := 37) (t := 42) dX7_loop_34 rfl rfl (fun h34 => ?_) (fun h34 => ?_)
      · have h34 := bi_0.mp h34
        refine k_bp hK (q := 44)  dX7_loop_42 rfl (by decide) ?_
        refine k_ir hK dX7_loop_44 rfl ?_
        refine PC_same (c := -2) ?_ hI0
        unfold aLoop
        rw [if_pos (by omega)]
      · have h34 := bi_1.mp h34
        refine k_iln hK (q := 38)  dX7_loop_37 rfl (z := g) rfl (k_iln hK (q := 39)  dX7_loop_38 rfl (z := f) rfl ?_)
        refine k_cge hK (q := 42) (t := 45) dX7_loop_39 rfl rfl (fun h39 => ?_) (fun h39 => ?_)
        · refine k_aln hK (q := 46)  dX7_loop_45 rfl (z := 0) rfl (k_gR hK (q := 49) (r := 7) dX7_loop_46 rfl rf_X7_19 rfl rfl (k_gI hK (q := 52) (z := M 7 2) 0 dX7_loop_49 rfl rf_X7_83 rfl rfl rfl rfl ?_))
          refine k_ifle hK (q := 55) (t := 58) dX7_loop_52 rfl rfl (fun h52 => ?_) (fun h52 => ?_)
          · refine k_aln hK (q := 59)  dX7_loop_58 rfl (z := 0) rfl (k_gR hK (q := 62) (r := 1) dX7_loop_59 rfl rf_X7_12 rfl rfl ?_)
            refine k_iv0I hK (q := 65) dX7_loop_62 rfl rm_X7_86 rfl rfl (Nat.le_of_ble_eq_true rfl) (t_hasLoop _ M) ?_
            refine k_ifeq hK (q := 68) (t := 72) dX7_loop_65 rfl rfl (fun h65 => ?_) (fun h65 => ?_)
            · have h65 := bi_0.mp h65
              refine k_ic hK (q := 73)  dX7_loop_72 rfl (by decide) (k_is hK (q := 75)  dX7_loop_73 rfl (L2 := [some (vR 0), some (vI f), some (vI g), some (vI 0), some (vI 0)]) (Nat.le_of_ble_eq_true rfl) rfl (k_aln hK (q := 76)  dX7_loop_75 rfl (z := 0) rfl (k_gR hK (q := 79) (r := 1) dX7_loop_76 rfl rf_X7_12 rfl rfl (k_iln hK (q := 80)  dX7_loop_79 rfl (z := f) rfl (k_pI hK (q := 83) (M2 := up M 1 7 f) dX7_loop_80 rfl rp_X7_115 rfl rfl rfl ?_)))))
              refine k_aln hK (q := 84)  dX7_loop_83 rfl (z := 0) rfl (k_gR hK (q := 87) (r := 1) dX7_loop_84 rfl rf_X7_12 rfl rfl (k_iln hK (q := 88)  dX7_loop_87 rfl (z := 0) rfl ?_))
              refine k_ifeq hK (q := 91) (t := 95) dX7_loop_88 rfl rfl (fun _ => ?_) (fun h88 => absurd h88 (by decide))
              refine k_iln hK (q := 96)  dX7_loop_95 rfl (z := g) rfl (k_pI hK (q := 99) (M2 := up (up M 1 7 f) 1 8 g) dX7_loop_96 rfl rp_X7_118 rfl rfl rfl (k_il hK (q := 101)  dX7_loop_99 rfl (z := 0) rfl ?_))
              refine k_ir hK dX7_loop_101 rfl ?_
              have hc0 : cnt = 0 := by omega
              unfold aLoop
              rw [if_neg (by omega), if_neg (by omega), if_neg (by omega), if_neg (by omega)]
              refine ⟨rfl, IC_score hI0 hc0 hal (by simp [up]; omega) ?_ (by intro k a b; simp only [up_k _ _ _ (show k ≠ 1 by omega), up_k _ _ _ (show k ≠ 2 by omega), up_k _ _ _ (show k ≠ 3 by omega), up_k _ _ _ (show k ≠ 4 by omega), up_k _ _ _ (show k ≠ 5 by omega), up_k _ _ _ (show k ≠ 6 by omega), up_k _ _ _ (show k ≠ 30 by omega), up_k _ _ _ (show k ≠ 31 by omega)]) ?_ ?_, clF_up (clF_up (clF_refl _) _ _ (by omega)) _ _ (by omega)⟩
              · rw [scC_u3, scC_u2, hs]
              · rw [up_k _ _ _ (by omega), up_k _ _ _ (by omega)]
                exact g30
              · rw [up_k _ _ _ (by omega), up_k _ _ _ (by omega)]
                exact g31
            · have h65 := bi_1.mp h65
              refine k_ic hK (q := 69)  dX7_loop_68 rfl (by decide) (k_goto hK (t := 73) dX7_loop_69 rfl (k_is hK (q := 75)  dX7_loop_73 rfl (L2 := [some (vR 0), some (vI f), some (vI g), some (vI 0), some (vI 1)]) (Nat.le_of_ble_eq_true rfl) rfl (k_aln hK (q := 76)  dX7_loop_75 rfl (z := 0) rfl (k_gR hK (q := 79) (r := 1) dX7_loop_76 rfl rf_X7_12 rfl rfl (k_iln hK (q := 80)  dX7_loop_79 rfl (z := f) rfl ?_)))))
              refine k_pI hK (q := 83) (M2 := up M 1 7 f) dX7_loop_80 rfl rp_X7_115 rfl rfl rfl (k_aln hK (q := 84)  dX7_loop_83 rfl (z := 0) rfl (k_gR hK (q := 87) (r := 1) dX7_loop_84 rfl rf_X7_12 rfl rfl (k_iln hK (q := 88)  dX7_loop_87 rfl (z := 0) rfl ?_)))
              refine k_ifeq hK (q := 91) (t := 95) dX7_loop_88 rfl rfl (fun _ => ?_) (fun h88 => absurd h88 (by decide))
              refine k_iln hK (q := 96)  dX7_loop_95 rfl (z := g) rfl (k_pI hK (q := 99) (M2 := up (up M 1 7 f) 1 8 g) dX7_loop_96 rfl rp_X7_118 rfl rfl rfl (k_il hK (q := 101)  dX7_loop_99 rfl (z := 1) rfl ?_))
              refine k_ir hK dX7_loop_101 rfl ?_
              have hc0 : cnt = 0 := by omega
              unfold aLoop
              rw [if_neg (by omega), if_neg (by omega), if_pos (by omega), if_neg (by omega)]
              refine ⟨rfl, IC_score hI0 hc0 hal (by simp [up]; omega) ?_ (by intro k a b; simp only [up_k _ _ _ (show k ≠ 1 by omega), up_k _ _ _ (show k ≠ 2 by omega), up_k _ _ _ (show k ≠ 3 by omega), up_k _ _ _ (show k ≠ 4 by omega), up_k _ _ _ (show k ≠ 5 by omega), up_k _ _ _ (show k ≠ 6 by omega), up_k _ _ _ (show k ≠ 30 by omega), up_k _ _ _ (show k ≠ 31 by omega)]) ?_ ?_, clF_up (clF_up (clF_refl _) _ _ (by omega)) _ _ (by omega)⟩
              · rw [scC_u3, scC_u2, hs]
              · rw [up_k _ _ _ (by omega), up_k _ _ _ (by omega)]
                exact g30
              · rw [up_k _ _ _ (by omega), up_k _ _ _ (by omega)]
                exact g31
          · refine k_bp hK (q := 57)  dX7_loop_55 rfl (by decide) ?_
            refine k_ir hK dX7_loop_57 rfl ?_
            refine PC_same (c := -3) ?_ hI0
            unfold aLoop
            rw [if_neg (by omega)]
            rw [if_pos (by omega)]
        · refine k_bp hK (q := 44)  dX7_loop_42 rfl (by decide) ?_
          refine k_ir hK dX7_loop_44 rfl ?_
          refine PC_same (c := -2) ?_ hI0
          unfold aLoop
          rw [if_pos (by omega)]
  · refine k_ic hK (q := 6)  dX7_loop_5 rfl (by decide) (k_goto hK (t := 10) dX7_loop_6 rfl (k_isn hK (q := 11)  dX7_loop_10 rfl (L2 := [some (vR 0), some (vI f), some (vI g), some (vI 1), none]) (Nat.le_of_ble_eq_true rfl) rfl (k_iln hK (q := 12)  dX7_loop_11 rfl (z := 1) rfl ?_)))
    refine k_ifne hK (q := 15) (t := 45) dX7_loop_12 rfl rfl (fun _ => ?_) (fun h12 => absurd h12 (by decide))
    refine k_aln hK (q := 46)  dX7_loop_45 rfl (z := 0) rfl (k_gR hK (q := 49) (r := 7) dX7_loop_46 rfl rf_X7_19 rfl rfl (k_gI hK (q := 52) (z := M 7 2) 0 dX7_loop_49 rfl rf_X7_83 rfl rfl rfl rfl ?_))
    refine k_ifle hK (q := 55) (t := 58) dX7_loop_52 rfl rfl (fun h52 => ?_) (fun h52 => ?_)
    · refine k_aln hK (q := 59)  dX7_loop_58 rfl (z := 0) rfl (k_gR hK (q := 62) (r := 1) dX7_loop_59 rfl rf_X7_12 rfl rfl ?_)
      refine k_iv0I hK (q := 65) dX7_loop_62 rfl rm_X7_86 rfl rfl (Nat.le_of_ble_eq_true rfl) (t_hasLoop _ M) ?_
      refine k_ifeq hK (q := 68) (t := 72) dX7_loop_65 rfl rfl (fun h65 => ?_) (fun h65 => ?_)
      · have h65 := bi_0.mp h65
        refine k_ic hK (q := 73)  dX7_loop_72 rfl (by decide) (k_is hK (q := 75)  dX7_loop_73 rfl (L2 := [some (vR 0), some (vI f), some (vI g), some (vI 1), some (vI 0)]) (Nat.le_of_ble_eq_true rfl) rfl (k_aln hK (q := 76)  dX7_loop_75 rfl (z := 0) rfl (k_gR hK (q := 79) (r := 1) dX7_loop_76 rfl rf_X7_12 rfl rfl (k_iln hK (q := 80)  dX7_loop_79 rfl (z := f) rfl (k_pI hK (q := 83) (M2 := up M 1 7 f) dX7_loop_80 rfl rp_X7_115 rfl rfl rfl ?_)))))
        refine k_aln hK (q := 84)  dX7_loop_83 rfl (z := 0) rfl (k_gR hK (q := 87) (r := 1) dX7_loop_84 rfl rf_X7_12 rfl rfl (k_iln hK (q := 88)  dX7_loop_87 rfl (z := 1) rfl ?_))
        refine k_ifeq hK (q := 91) (t := 95) dX7_loop_88 rfl rfl (fun h88 => absurd h88 (by decide)) (fun _ => ?_)
        refine k_ic hK (q := 92)  dX7_loop_91 rfl (by decide) (k_goto hK (t := 96) dX7_loop_92 rfl (k_pI hK (q := 99) (M2 := up (up M 1 7 f) 1 8 (-1)) dX7_loop_96 rfl rp_X7_118 rfl rfl rfl (k_il hK (q := 101)  dX7_loop_99 rfl (z := 0) rfl ?_)))
        refine k_ir hK dX7_loop_101 rfl ?_
        have hc0 : cnt = 0 := by omega
        unfold aLoop
        rw [if_neg (by omega), if_neg (by omega), if_neg (by omega), if_pos (by omega)]
        refine ⟨rfl, IC_score hI0 hc0 hal (by simp [up]; omega) ?_ (by intro k a b; simp only [up_k _ _ _ (show k ≠ 1 by omega), up_k _ _ _ (show k ≠ 2 by omega), up_k _ _ _ (show k ≠ 3 by omega), up_k _ _ _ (show k ≠ 4 by omega), up_k _ _ _ (show k ≠ 5 by omega), up_k _ _ _ (show k ≠ 6 by omega), up_k _ _ _ (show k ≠ 30 by omega), up_k _ _ _ (show k ≠ 31 by omega)]) ?_ ?_, clF_up (clF_up (clF_refl _) _ _ (by omega)) _ _ (by omega)⟩
        · rw [scC_u3, scC_u2, hs]
        · rw [up_k _ _ _ (by omega), up_k _ _ _ (by omega)]
          exact g30
        · rw [up_k _ _ _ (by omega), up_k _ _ _ (by omega)]
          exact g31
      · have h65 := bi_1.mp h65
        refine k_ic hK (q := 69)  dX7_loop_68 rfl (by decide) (k_goto hK (t := 73) dX7_loop_69 rfl (k_is hK (q := 75)  dX7_loop_73 rfl (L2 := [some (vR 0), some (vI f), some (vI g), some (vI 1), some (vI 1)]) (Nat.le_of_ble_eq_true rfl) rfl (k_aln hK (q := 76)  dX7_loop_75 rfl (z := 0) rfl (k_gR hK (q := 79) (r := 1) dX7_loop_76 rfl rf_X7_12 rfl rfl (k_iln hK (q := 80)  dX7_loop_79 rfl (z := f) rfl ?_)))))
        refine k_pI hK (q := 83) (M2 := up M 1 7 f) dX7_loop_80 rfl rp_X7_115 rfl rfl rfl (k_aln hK (q := 84)  dX7_loop_83 rfl (z := 0) rfl (k_gR hK (q := 87) (r := 1) dX7_loop_84 rfl rf_X7_12 rfl rfl (k_iln hK (q := 88)  dX7_loop_87 rfl (z := 1) rfl ?_)))
        refine k_ifeq hK (q := 91) (t := 95) dX7_loop_88 rfl rfl (fun h88 => absurd h88 (by decide)) (fun _ => ?_)
        refine k_ic hK (q := 92)  dX7_loop_91 rfl (by decide) (k_goto hK (t := 96) dX7_loop_92 rfl (k_pI hK (q := 99) (M2 := up (up M 1 7 f) 1 8 (-1)) dX7_loop_96 rfl rp_X7_118 rfl rfl rfl (k_il hK (q := 101)  dX7_loop_99 rfl (z := 1) rfl ?_)))
        refine k_ir hK dX7_loop_101 rfl ?_
        have hc0 : cnt = 0 := by omega
        unfold aLoop
        rw [if_neg (by omega), if_neg (by omega), if_pos (by omega), if_pos (by omega)]
        refine ⟨rfl, IC_score hI0 hc0 hal (by simp [up]; omega) ?_ (by intro k a b; simp only [up_k _ _ _ (show k ≠ 1 by omega), up_k _ _ _ (show k ≠ 2 by omega), up_k _ _ _ (show k ≠ 3 by omega), up_k _ _ _ (show k ≠ 4 by omega), up_k _ _ _ (show k ≠ 5 by omega), up_k _ _ _ (show k ≠ 6 by omega), up_k _ _ _ (show k ≠ 30 by omega), up_k _ _ _ (show k ≠ 31 by omega)]) ?_ ?_, clF_up (clF_up (clF_refl _) _ _ (by omega)) _ _ (by omega)⟩
        · rw [scC_u3, scC_u2, hs]
        · rw [up_k _ _ _ (by omega), up_k _ _ _ (by omega)]
          exact g30
        · rw [up_k _ _ _ (by omega), up_k _ _ _ (by omega)]
          exact g31
    · refine k_bp hK (q := 57)  dX7_loop_55 rfl (by decide) ?_
      refine k_ir hK dX7_loop_57 rfl ?_
      refine PC_same (c := -3) ?_ hI0
      unfold aLoop
      rw [if_neg (by omega)]
      rw [if_pos (by omega)]

set_option maxRecDepth 20000 in
set_option maxHeartbeats 2000000 in
theorem xc_cost (d t : Nat) (M : ra_M) (S : Sc) (cnt : Int) (hp ht : Int → Int) (ses : Int) (bx du : Int → Int) (al : Al8) (hI : IC S cnt hp ht ses bx du al M) (hw : WF t S cnt hp ht ses bx al) (w v : Int) : Ex (d + 1) m_X7_cost [vR 0, vI w, vI v] M (PC M (aCost S cnt hp ht ses bx du al w v)) := by
  refine Ex_call (Nat.le_of_ble_eq_true rfl) (fun K hK => ?_)
  show K 0 [some (vR 0), some (vI w), some (vI v), none, none] [] M
  have hK : ra_Clo _ m_X7_cost cX7_cost _ K := hK
  have hI0 := hI
  obtain ⟨hs, ⟨g7, g8, g9⟩, ⟨g29, g30, g31⟩, hN, hF, hA, hL⟩ := hI
  obtain ⟨hS, hc, hnn, hh, hse, hbx, hal⟩ := hw
  obtain ⟨e5, e6, e7, e8, e9⟩ := scC_e hs
  obtain ⟨a2, a3, a4, a5, a6⟩ := scC_a hs
  have hs0 := hS.1
  have hs1 := hS.2.1
  have hs2 := hS.2.2.1
  refine k_iln hK (q := 1)  dX7_cost_0 rfl (z := w) rfl (k_ic hK (q := 2)  dX7_cost_1 rfl (by decide) (k_ic hK (q := 3)  dX7_cost_2 rfl (by decide) ?_))
  refine k_st3I hK (q := 6) dX7_cost_3 rfl rm_X7_74 (Nat.le_of_ble_eq_true rfl) (t_isWithin _ M w 0 4) ?_
  refine k_ifne hK (q := 9) (t := 12) dX7_cost_6 rfl rfl (fun h6 => ?_) (fun h6 => ?_)
  · have h6 := bi_1.mp h6
    refine k_iln hK (q := 13)  dX7_cost_12 rfl (z := w) rfl (k_ic hK (q := 14)  dX7_cost_13 rfl (by decide) ?_)
    refine k_ceq hK (q := 17) (t := 22) dX7_cost_14 rfl rfl (fun h14 => ?_) (fun h14 => ?_)
    · refine k_ic hK (q := 23)  dX7_cost_22 rfl (by decide) (k_goto hK (t := 27) dX7_cost_23 rfl (k_isn hK (q := 28)  dX7_cost_27 rfl (L2 := [some (vR 0), some (vI w), some (vI v), some (vI 1), none]) (Nat.le_of_ble_eq_true rfl) rfl (k_iln hK (q := 29)  dX7_cost_28 rfl (z := v) rfl (k_iln hK (q := 30)  dX7_cost_29 rfl (z := 1) rfl (k_sp hK (q := 33)  dX7_cost_30 rfl (by decide) ?_)))))
      refine k_st3I hK (q := 36) dX7_cost_33 rfl rm_X7_74 (Nat.le_of_ble_eq_true rfl) (t_isWithin _ M v 1 1000) ?_
      refine k_ifne hK (q := 39) (t := 42) dX7_cost_36 rfl rfl (fun h36 => ?_) (fun h36 => ?_)
      · have h36 := bi_1.mp h36
        refine k_aln hK (q := 43)  dX7_cost_42 rfl (z := 0) rfl (k_gR hK (q := 46) (r := 7) dX7_cost_43 rfl rf_X7_19 rfl rfl (k_gI hK (q := 49) (z := M 7 2) 0 dX7_cost_46 rfl rf_X7_83 rfl rfl rfl rfl ?_))
        refine k_ifle hK (q := 52) (t := 55) dX7_cost_49 rfl rfl (fun h49 => ?_) (fun h49 => ?_)
        · refine k_aln hK (q := 56)  dX7_cost_55 rfl (z := 0) rfl (k_gR hK (q := 59) (r := 1) dX7_cost_56 rfl rf_X7_12 rfl rfl (k_gR hK (q := 62) (r := 6) dX7_cost_59 rfl rf_X7_121 rfl rfl (k_iln hK (q := 63)  dX7_cost_62 rfl (z := w) rfl (k_ald hK (q := 64)  dX7_cost_63 rfl (y := M 6 w) rfl (by omega) rfl (k_is hK (q := 66)  dX7_cost_64 rfl (L2 := [some (vR 0), some (vI w), some (vI v), some (vI 1), some (vI (M 6 w))]) (Nat.le_of_ble_eq_true rfl) rfl ?_)))))
          refine k_aln hK (q := 67)  dX7_cost_66 rfl (z := 0) rfl (k_gR hK (q := 70) (r := 1) dX7_cost_67 rfl rf_X7_12 rfl rfl (k_gR hK (q := 73) (r := 6) dX7_cost_70 rfl rf_X7_121 rfl rfl (k_iln hK (q := 74)  dX7_cost_73 rfl (z := w) rfl (k_iln hK (q := 75)  dX7_cost_74 rfl (z := v) rfl (k_ast hK (q := 76)  dX7_cost_75 rfl rfl (by omega) ?_)))))
          refine k_il hK (q := 78)  dX7_cost_76 rfl (z := (M 6 w)) rfl ?_
          refine k_ir hK dX7_cost_78 rfl ?_
          have hc0 : cnt = 0 := by omega
          unfold aCost
          rw [if_neg (by omega), if_neg (by omega)]
          refine ⟨by rw [a6], IC_score hI0 hc0 hal (by simp [up]; omega) ?_ (by intro k a b; simp only [up_k _ _ _ (show k ≠ 1 by omega), up_k _ _ _ (show k ≠ 2 by omega), up_k _ _ _ (show k ≠ 3 by omega), up_k _ _ _ (show k ≠ 4 by omega), up_k _ _ _ (show k ≠ 5 by omega), up_k _ _ _ (show k ≠ 6 by omega), up_k _ _ _ (show k ≠ 30 by omega), up_k _ _ _ (show k ≠ 31 by omega)]) ?_ ?_, clF_up (clF_refl _) _ _ (by omega)⟩
          · rw [scC_a6, hs]
          · rw [up_k _ _ _ (by omega)]
            exact g30
          · rw [up_k _ _ _ (by omega)]
            exact g31
        · refine k_bp hK (q := 54)  dX7_cost_52 rfl (by decide) ?_
          refine k_ir hK dX7_cost_54 rfl ?_
          refine PC_same (c := -3) ?_ hI0
          unfold aCost
          rw [if_neg (by omega)]
          rw [if_pos (by omega)]
      · have h36 := bi_0.mp h36
        refine k_bp hK (q := 41)  dX7_cost_39 rfl (by decide) ?_
        refine k_ir hK dX7_cost_41 rfl ?_
        refine PC_same (c := -2) ?_ hI0
        unfold aCost
        rw [if_pos (by omega)]
    · refine k_iln hK (q := 18)  dX7_cost_17 rfl (z := w) rfl (k_ic hK (q := 19)  dX7_cost_18 rfl (by decide) ?_)
      refine k_cne hK (q := 22) (t := 26) dX7_cost_19 rfl rfl (fun h19 => ?_) (fun h19 => ?_)
      · refine k_ic hK (q := 27)  dX7_cost_26 rfl (by decide) (k_isn hK (q := 28)  dX7_cost_27 rfl (L2 := [some (vR 0), some (vI w), some (vI v), some (vI 0), none]) (Nat.le_of_ble_eq_true rfl) rfl (k_iln hK (q := 29)  dX7_cost_28 rfl (z := v) rfl (k_iln hK (q := 30)  dX7_cost_29 rfl (z := 0) rfl (k_sp hK (q := 33)  dX7_cost_30 rfl (by decide) ?_))))
        refine k_st3I hK (q := 36) dX7_cost_33 rfl rm_X7_74 (Nat.le_of_ble_eq_true rfl) (t_isWithin _ M v 0 1000) ?_
        refine k_ifne hK (q := 39) (t := 42) dX7_cost_36 rfl rfl (fun h36 => ?_) (fun h36 => ?_)
        · have h36 := bi_1.mp h36
          refine k_aln hK (q := 43)  dX7_cost_42 rfl (z := 0) rfl (k_gR hK (q := 46) (r := 7) dX7_cost_43 rfl rf_X7_19 rfl rfl (k_gI hK (q := 49) (z := M 7 2) 0 dX7_cost_46 rfl rf_X7_83 rfl rfl rfl rfl ?_))
          refine k_ifle hK (q := 52) (t := 55) dX7_cost_49 rfl rfl (fun h49 => ?_) (fun h49 => ?_)
          · refine k_aln hK (q := 56)  dX7_cost_55 rfl (z := 0) rfl (k_gR hK (q := 59) (r := 1) dX7_cost_56 rfl rf_X7_12 rfl rfl (k_gR hK (q := 62) (r := 6) dX7_cost_59 rfl rf_X7_121 rfl rfl (k_iln hK (q := 63)  dX7_cost_62 rfl (z := w) rfl (k_ald hK (q := 64)  dX7_cost_63 rfl (y := M 6 w) rfl (by omega) rfl (k_is hK (q := 66)  dX7_cost_64 rfl (L2 := [some (vR 0), some (vI w), some (vI v), some (vI 0), some (vI (M 6 w))]) (Nat.le_of_ble_eq_true rfl) rfl ?_)))))
            refine k_aln hK (q := 67)  dX7_cost_66 rfl (z := 0) rfl (k_gR hK (q := 70) (r := 1) dX7_cost_67 rfl rf_X7_12 rfl rfl (k_gR hK (q := 73) (r := 6) dX7_cost_70 rfl rf_X7_121 rfl rfl (k_iln hK (q := 74)  dX7_cost_73 rfl (z := w) rfl (k_iln hK (q := 75)  dX7_cost_74 rfl (z := v) rfl (k_ast hK (q := 76)  dX7_cost_75 rfl rfl (by omega) ?_)))))
            refine k_il hK (q := 78)  dX7_cost_76 rfl (z := (M 6 w)) rfl ?_
            refine k_ir hK dX7_cost_78 rfl ?_
            have hc0 : cnt = 0 := by omega
            unfold aCost
            rw [if_neg (by omega), if_neg (by omega)]
            refine ⟨by rw [a6], IC_score hI0 hc0 hal (by simp [up]; omega) ?_ (by intro k a b; simp only [up_k _ _ _ (show k ≠ 1 by omega), up_k _ _ _ (show k ≠ 2 by omega), up_k _ _ _ (show k ≠ 3 by omega), up_k _ _ _ (show k ≠ 4 by omega), up_k _ _ _ (show k ≠ 5 by omega), up_k _ _ _ (show k ≠ 6 by omega), up_k _ _ _ (show k ≠ 30 by omega), up_k _ _ _ (show k ≠ 31 by omega)]) ?_ ?_, clF_up (clF_refl _) _ _ (by omega)⟩
            · rw [scC_a6, hs]
            · rw [up_k _ _ _ (by omega)]
              exact g30
            · rw [up_k _ _ _ (by omega)]
              exact g31
          · refine k_bp hK (q := 54)  dX7_cost_52 rfl (by decide) ?_
            refine k_ir hK dX7_cost_54 rfl ?_
            refine PC_same (c := -3) ?_ hI0
            unfold aCost
            rw [if_neg (by omega)]
            rw [if_pos (by omega)]
        · have h36 := bi_0.mp h36
          refine k_bp hK (q := 41)  dX7_cost_39 rfl (by decide) ?_
          refine k_ir hK dX7_cost_41 rfl ?_
          refine PC_same (c := -2) ?_ hI0
          unfold aCost
          rw [if_pos (by omega)]
      · refine k_ic hK (q := 23)  dX7_cost_22 rfl (by decide) (k_goto hK (t := 27) dX7_cost_23 rfl (k_isn hK (q := 28)  dX7_cost_27 rfl (L2 := [some (vR 0), some (vI w), some (vI v), some (vI 1), none]) (Nat.le_of_ble_eq_true rfl) rfl (k_iln hK (q := 29)  dX7_cost_28 rfl (z := v) rfl (k_iln hK (q := 30)  dX7_cost_29 rfl (z := 1) rfl (k_sp hK (q := 33)  dX7_cost_30 rfl (by decide) ?_)))))
        refine k_st3I hK (q := 36) dX7_cost_33 rfl rm_X7_74 (Nat.le_of_ble_eq_true rfl) (t_isWithin _ M v 1 1000) ?_
        refine k_ifne hK (q := 39) (t := 42) dX7_cost_36 rfl rfl (fun h36 => ?_) (fun h36 => ?_)
        · have h36 := bi_1.mp h36
          refine k_aln hK (q := 43)  dX7_cost_42 rfl (z := 0) rfl (k_gR hK (q := 46) (r := 7) dX7_cost_43 rfl rf_X7_19 rfl rfl (k_gI hK (q := 49) (z := M 7 2) 0 dX7_cost_46 rfl rf_X7_83 rfl rfl rfl rfl ?_))
          refine k_ifle hK (q := 52) (t := 55) dX7_cost_49 rfl rfl (fun h49 => ?_) (fun h49 => ?_)
          · refine k_aln hK (q := 56)  dX7_cost_55 rfl (z := 0) rfl (k_gR hK (q := 59) (r := 1) dX7_cost_56 rfl rf_X7_12 rfl rfl (k_gR hK (q := 62) (r := 6) dX7_cost_59 rfl rf_X7_121 rfl rfl (k_iln hK (q := 63)  dX7_cost_62 rfl (z := w) rfl (k_ald hK (q := 64)  dX7_cost_63 rfl (y := M 6 w) rfl (by omega) rfl (k_is hK (q := 66)  dX7_cost_64 rfl (L2 := [some (vR 0), some (vI w), some (vI v), some (vI 1), some (vI (M 6 w))]) (Nat.le_of_ble_eq_true rfl) rfl ?_)))))
            refine k_aln hK (q := 67)  dX7_cost_66 rfl (z := 0) rfl (k_gR hK (q := 70) (r := 1) dX7_cost_67 rfl rf_X7_12 rfl rfl (k_gR hK (q := 73) (r := 6) dX7_cost_70 rfl rf_X7_121 rfl rfl (k_iln hK (q := 74)  dX7_cost_73 rfl (z := w) rfl (k_iln hK (q := 75)  dX7_cost_74 rfl (z := v) rfl (k_ast hK (q := 76)  dX7_cost_75 rfl rfl (by omega) ?_)))))
            refine k_il hK (q := 78)  dX7_cost_76 rfl (z := (M 6 w)) rfl ?_
            refine k_ir hK dX7_cost_78 rfl ?_
            have hc0 : cnt = 0 := by omega
            unfold aCost
            rw [if_neg (by omega), if_neg (by omega)]
            refine ⟨by rw [a6], IC_score hI0 hc0 hal (by simp [up]; omega) ?_ (by intro k a b; simp only [up_k _ _ _ (show k ≠ 1 by omega), up_k _ _ _ (show k ≠ 2 by omega), up_k _ _ _ (show k ≠ 3 by omega), up_k _ _ _ (show k ≠ 4 by omega), up_k _ _ _ (show k ≠ 5 by omega), up_k _ _ _ (show k ≠ 6 by omega), up_k _ _ _ (show k ≠ 30 by omega), up_k _ _ _ (show k ≠ 31 by omega)]) ?_ ?_, clF_up (clF_refl _) _ _ (by omega)⟩
            · rw [scC_a6, hs]
            · rw [up_k _ _ _ (by omega)]
              exact g30
            · rw [up_k _ _ _ (by omega)]
              exact g31
          · refine k_bp hK (q := 54)  dX7_cost_52 rfl (by decide) ?_
            refine k_ir hK dX7_cost_54 rfl ?_
            refine PC_same (c := -3) ?_ hI0
            unfold aCost
            rw [if_neg (by omega)]
            rw [if_pos (by omega)]
        · have h36 := bi_0.mp h36
          refine k_bp hK (q := 41)  dX7_cost_39 rfl (by decide) ?_
          refine k_ir hK dX7_cost_41 rfl ?_
          refine PC_same (c := -2) ?_ hI0
          unfold aCost
          rw [if_pos (by omega)]
  · have h6 := bi_0.mp h6
    refine k_bp hK (q := 11)  dX7_cost_9 rfl (by decide) ?_
    refine k_ir hK dX7_cost_11 rfl ?_
    refine PC_same (c := -2) ?_ hI0
    unfold aCost
    rw [if_pos (by omega)]

set_option maxRecDepth 20000 in
set_option maxHeartbeats 2000000 in
theorem xc_span (d t : Nat) (M : ra_M) (S : Sc) (cnt : Int) (hp ht : Int → Int) (ses : Int) (bx du : Int → Int) (al : Al8) (hI : IC S cnt hp ht ses bx du al M) (hw : WF t S cnt hp ht ses bx al) (s : Int) : Ex (d + 1) m_X7_span [vR 0, vI s] M (PC M (aSpan S cnt hp ht ses bx du al s)) := by
  refine Ex_call (Nat.le_of_ble_eq_true rfl) (fun K hK => ?_)
  show K 0 [some (vR 0), some (vI s), none] [] M
  have hK : ra_Clo _ m_X7_span cX7_span _ K := hK
  have hI0 := hI
  obtain ⟨hs, ⟨g7, g8, g9⟩, ⟨g29, g30, g31⟩, hN, hF, hA, hL⟩ := hI
  obtain ⟨hS, hc, hnn, hh, hse, hbx, hal⟩ := hw
  obtain ⟨e5, e6, e7, e8, e9⟩ := scC_e hs
  obtain ⟨a2, a3, a4, a5, a6⟩ := scC_a hs
  have hs0 := hS.1
  have hs1 := hS.2.1
  have hs2 := hS.2.2.1
  refine k_iln hK (q := 1)  dX7_span_0 rfl (z := s) rfl (k_ic hK (q := 2)  dX7_span_1 rfl (by decide) (k_bp hK (q := 4)  dX7_span_2 rfl (by decide) ?_))
  refine k_st3I hK (q := 7) dX7_span_4 rfl rm_X7_74 (Nat.le_of_ble_eq_true rfl) (t_isWithin _ M s 0 100) ?_
  refine k_ifne hK (q := 10) (t := 13) dX7_span_7 rfl rfl (fun h7 => ?_) (fun h7 => ?_)
  · have h7 := bi_1.mp h7
    refine k_aln hK (q := 14)  dX7_span_13 rfl (z := 0) rfl (k_gR hK (q := 17) (r := 7) dX7_span_14 rfl rf_X7_19 rfl rfl (k_gI hK (q := 20) (z := M 7 2) 0 dX7_span_17 rfl rf_X7_83 rfl rfl rfl rfl ?_))
    refine k_ifle hK (q := 23) (t := 26) dX7_span_20 rfl rfl (fun h20 => ?_) (fun h20 => ?_)
    · refine k_aln hK (q := 27)  dX7_span_26 rfl (z := 0) rfl (k_gR hK (q := 30) (r := 1) dX7_span_27 rfl rf_X7_12 rfl rfl (k_gI hK (q := 33) (z := M 1 9) 0 dX7_span_30 rfl rf_X7_125 rfl rfl rfl rfl (k_isn hK (q := 34)  dX7_span_33 rfl (L2 := [some (vR 0), some (vI s), some (vI (M 1 9))]) (Nat.le_of_ble_eq_true rfl) rfl (k_aln hK (q := 35)  dX7_span_34 rfl (z := 0) rfl (k_gR hK (q := 38) (r := 1) dX7_span_35 rfl rf_X7_12 rfl rfl ?_)))))
      refine k_iln hK (q := 39)  dX7_span_38 rfl (z := s) rfl (k_pI hK (q := 42) (M2 := up M 1 9 s) dX7_span_39 rfl rp_X7_125 rfl rfl rfl (k_iln hK (q := 43)  dX7_span_42 rfl (z := (M 1 9)) rfl ?_))
      refine k_ir hK dX7_span_43 rfl ?_
      have hc0 : cnt = 0 := by omega
      unfold aSpan
      rw [if_neg (by omega), if_neg (by omega)]
      refine ⟨by rw [e9], IC_score hI0 hc0 hal (by simp [up]; omega) ?_ (by intro k a b; simp only [up_k _ _ _ (show k ≠ 1 by omega), up_k _ _ _ (show k ≠ 2 by omega), up_k _ _ _ (show k ≠ 3 by omega), up_k _ _ _ (show k ≠ 4 by omega), up_k _ _ _ (show k ≠ 5 by omega), up_k _ _ _ (show k ≠ 6 by omega), up_k _ _ _ (show k ≠ 30 by omega), up_k _ _ _ (show k ≠ 31 by omega)]) ?_ ?_, clF_up (clF_refl _) _ _ (by omega)⟩
      · rw [scC_u4, hs]
      · rw [up_k _ _ _ (by omega)]
        exact g30
      · rw [up_k _ _ _ (by omega)]
        exact g31
    · refine k_bp hK (q := 25)  dX7_span_23 rfl (by decide) ?_
      refine k_ir hK dX7_span_25 rfl ?_
      refine PC_same (c := -3) ?_ hI0
      unfold aSpan
      rw [if_neg (by omega)]
      rw [if_pos (by omega)]
  · have h7 := bi_0.mp h7
    refine k_bp hK (q := 12)  dX7_span_10 rfl (by decide) ?_
    refine k_ir hK dX7_span_12 rfl ?_
    refine PC_same (c := -2) ?_ hI0
    unfold aSpan
    rw [if_pos (by omega)]

set_option maxRecDepth 20000 in
set_option maxHeartbeats 2000000 in
theorem xc_clear (d t : Nat) (M : ra_M) (S : Sc) (cnt : Int) (hp ht : Int → Int) (ses : Int) (bx du : Int → Int) (al : Al8) (hI : IC S cnt hp ht ses bx du al M) (hw : WF t S cnt hp ht ses bx al) : Ex (d + 2) m_X7_clear [vR 0] M (fun r M2 => r = none ∧ IC (eS S) 0 hp ht 0 bx du none M2 ∧ clF M M2) := by
  refine Ex_call (Nat.le_of_ble_eq_true rfl) (fun K hK => ?_)
  show K 0 [some (vR 0)] [] M
  have hK : ra_Clo _ m_X7_clear cX7_clear _ K := hK
  have hI0 := hI
  obtain ⟨hs, ⟨g7, g8, g9⟩, ⟨g29, g30, g31⟩, hN, hF, hA, hL⟩ := hI
  obtain ⟨hS, hc, hnn, hh, hse, hbx, hal⟩ := hw
  obtain ⟨e5, e6, e7, e8, e9⟩ := scC_e hs
  obtain ⟨a2, a3, a4, a5, a6⟩ := scC_a hs
  have hs0 := hS.1
  have hs1 := hS.2.1
  have hs2 := hS.2.2.1
  refine k_aln hK (q := 1)  dX7_clear_0 rfl (z := 0) rfl (k_gR hK (q := 4) (r := 1) dX7_clear_1 rfl rf_X7_12 rfl rfl ?_)
  refine k_iv0 hK (q := 7) dX7_clear_4 rfl rm_X7_64 rfl rfl (Nat.le_of_ble_eq_true rfl) (xc_empty _ M) (fun r9 M5 h9 => ?_)
  obtain ⟨rfl, hs5, hf5⟩ := h9
  show K 7 [some (vR 0)] [] M5
  refine k_aln hK (q := 8)  dX7_clear_7 rfl (z := 0) rfl (k_gR hK (q := 11) (r := 29) dX7_clear_8 rfl rf_X7_60 rfl rfl (k_ic hK (q := 12)  dX7_clear_11 rfl (by decide) (k_pI hK (q := 15) (M2 := up M5 29 2 0) dX7_clear_12 rfl rp_X7_67 rfl rfl rfl (k_aln hK (q := 16)  dX7_clear_15 rfl (z := 0) rfl ?_))))
  refine k_iv0 hK (q := 19) dX7_clear_16 rfl rm_X7_71 rfl rfl (Nat.le_of_ble_eq_true rfl) (xc_hearN _ (up M5 29 2 0)) (fun r9 M6 h9 => ?_)
  obtain ⟨rfl, h67, h616, h615, h618, h621, f6⟩ := h9
  show K 19 [some (vR 0)] [] M6
  refine k_vr hK dX7_clear_19 rfl ?_
  have fr : ∀ k, k ∉ [1, 6, 7, 15, 16, 18, 21, 29] → M6 k = M k := by
    intro k hk
    simp only [List.mem_cons, List.not_mem_nil, or_false, not_or] at hk
    rw [f6 k (by simp; omega), up_k _ _ _ (by omega), hf5 k (by simp; omega)]
  refine ⟨rfl, ⟨?_, ⟨h67, ?_, ?_⟩, ⟨?_, ?_, ?_⟩, fun q => absurd q (by omega), FlC_z h616 h615 (by simp [eS]), AnC_nil h618, h621⟩, fun k hk => fr k (by simp; omega)⟩
  · rw [scC_fr (M := up M5 29 2 0) (fun k a b => f6 k (by simp; omega)), scC_o _ _ _ (by omega), hs5, hs]
  · rw [fr 8 (by decide)]; exact g8
  · rw [fr 9 (by decide)]; exact g9
  · rw [f6 29 (by decide), up_same]
  · rw [fr 30 (by decide)]; exact g30
  · rw [fr 31 (by decide)]; exact g31
