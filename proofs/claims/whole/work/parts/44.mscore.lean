/-! the reference: the score's calls -/
def SM (M : ra_M) (ls : List St4) : Prop := M 32 33 = (ls.length : Nat) ∧ ∀ (i : Nat) (s : St4), ls[i]? = some s → M 50 (i : Nat) = s.1 ∧ M 51 (i : Nat) = s.2.1 ∧ M 52 (i : Nat) = s.2.2.1 ∧ M 53 (i : Nat) = s.2.2.2
def AlM (al : Al8) (M : ra_M) : Prop := match al with
  | none => M 32 27 = 0
  | some q => M 32 27 = 1 ∧ SM M q.2
def IM (S : Sc) (cnt : Int) (hp ht : Int → Int) (ses : Int) (bx du : Int → Int) (al : Al8) (M : ra_M) : Prop :=
  scM M = S ∧ (M 32 14 = cnt ∧ M 40 = hp ∧ M 41 = ht) ∧ (M 32 15 = ses ∧ M 35 = bx ∧ M 36 = du) ∧ MF S hp ht cnt.toNat M ∧ AlM al M
def IMs (q : Stt) (M : ra_M) : Prop := IM q.1 q.2.1 q.2.2.1 q.2.2.2.1 q.2.2.2.2.1 q.2.2.2.2.2.1 q.2.2.2.2.2.2.1 q.2.2.2.2.2.2.2 M
def PM (M : ra_M) (q : Int × Stt) (r : Option ra_V) (M2 : ra_M) : Prop := r = some (vI q.1) ∧ IMs q.2 M2 ∧ moF M M2
theorem moF_M {l : List Nat} {fs : List Int} {M M2 : ra_M} (h : frM l fs M M2) (hl : ∀ k ∈ l, 32 ≤ k) : moF M M2 := fun k hk => h.1 k (by omega) (fun q => by have := hl k q; omega)
theorem MF_f {S : Sc} {hp ht : Int → Int} {k : Nat} {M M2 : ra_M} (h : MF S hp ht k M) (h42 : M2 42 = M 42) (h19 : M2 32 19 = M 32 19) (h22 : M2 32 22 = M 32 22) (h45 : M2 45 = M 45) (h46 : M2 46 = M 46) : MF S hp ht k M2 := ⟨by rw [h42]; exact h.1, by rw [h19]; exact h.2.1, AnM_f h.2.2 h22 h45 h46⟩
theorem SM_f {M M2 : ra_M} {ls : List St4} (h : SM M ls) (h1 : M2 32 33 = M 32 33) (h50 : M2 50 = M 50) (h51 : M2 51 = M 51) (h52 : M2 52 = M 52) (h53 : M2 53 = M 53) : SM M2 ls := by
  unfold SM at *
  rw [h1, h50, h51, h52, h53]
  exact h
theorem AlM_f {M M2 : ra_M} {al : Al8} (h : AlM al M) (h27 : M2 32 27 = M 32 27) (h1 : M2 32 33 = M 32 33) (h50 : M2 50 = M 50) (h51 : M2 51 = M 51) (h52 : M2 52 = M 52) (h53 : M2 53 = M 53) : AlM al M2 := by
  cases al with
  | none => exact h27.trans h
  | some q => exact ⟨h27.trans h.1, SM_f h.2 h1 h50 h51 h52 h53⟩
theorem IM_f {S : Sc} {cnt : Int} {hp ht : Int → Int} {ses : Int} {bx du : Int → Int} {al : Al8} {l : List Nat} {fs : List Int} {M M2 : ra_M} (h : IM S cnt hp ht ses bx du al M) (hf : frM l fs M M2) (hl : ∀ k ∈ l, k = 43 ∨ k = 44 ∨ k = 47 ∨ k = 48 ∨ k = 49) (hfs : ∀ j ∈ fs, j = 25 ∨ j = 28 ∨ j = 34) : IM S cnt hp ht ses bx du al M2 := by
  obtain ⟨h1, ⟨h2, h3, h4⟩, ⟨h5, h6, h7⟩, h8, h9⟩ := h
  have nl : ∀ k, k ≠ 43 → k ≠ 44 → k ≠ 47 → k ≠ 48 → k ≠ 49 → k ∉ l := fun k a b c d e q => by have := hl k q; omega
  have nf : ∀ j : Int, j ≠ 25 → j ≠ 28 → j ≠ 34 → j ∉ fs := fun j a b c q => by have := hfs j q; omega
  refine ⟨?_, ⟨?_, ?_, ?_⟩, ⟨?_, ?_, ?_⟩, MF_f h8 (hf.1 42 (by decide) (nl _ (by decide) (by decide) (by decide) (by decide) (by decide))) (hf.2 19 (nf _ (by decide) (by decide) (by decide))) (hf.2 22 (nf _ (by decide) (by decide) (by decide))) (hf.1 45 (by decide) (nl _ (by decide) (by decide) (by decide) (by decide) (by decide))) (hf.1 46 (by decide) (nl _ (by decide) (by decide) (by decide) (by decide) (by decide))), AlM_f h9 (hf.2 27 (nf _ (by decide) (by decide) (by decide))) (hf.2 33 (nf _ (by decide) (by decide) (by decide))) (hf.1 50 (by decide) (nl _ (by decide) (by decide) (by decide) (by decide) (by decide))) (hf.1 51 (by decide) (nl _ (by decide) (by decide) (by decide) (by decide) (by decide))) (hf.1 52 (by decide) (nl _ (by decide) (by decide) (by decide) (by decide) (by decide))) (hf.1 53 (by decide) (nl _ (by decide) (by decide) (by decide) (by decide) (by decide)))⟩
  · rw [scM_fr hf (fun k q => by have := hl k q; omega) (fun j q => by have := hfs j q; omega)]; exact h1
  · rw [hf.2 14 (nf _ (by decide) (by decide) (by decide))]; exact h2
  · rw [hf.1 40 (by decide) (nl _ (by decide) (by decide) (by decide) (by decide) (by decide))]; exact h3
  · rw [hf.1 41 (by decide) (nl _ (by decide) (by decide) (by decide) (by decide) (by decide))]; exact h4
  · rw [hf.2 15 (nf _ (by decide) (by decide) (by decide))]; exact h5
  · rw [hf.1 35 (by decide) (nl _ (by decide) (by decide) (by decide) (by decide) (by decide))]; exact h6
  · rw [hf.1 36 (by decide) (nl _ (by decide) (by decide) (by decide) (by decide) (by decide))]; exact h7
theorem IM_hi {M M2 : ra_M} {q : Stt} (h : IMs q M) (hf : clF M M2) : IMs q M2 := by
  obtain ⟨h1, ⟨h2, h3, h4⟩, ⟨h5, h6, h7⟩, h8, h9⟩ := h
  have f : frM [] [] M (fun k j => if k < 32 then M k j else M2 k j) := ⟨fun k a b => by
    funext j
    show (if k < 32 then M k j else M2 k j) = M k j
    split
    · rfl
    · rw [hf k (by omega)], fun j _ => by
    show (if 32 < 32 then M 32 j else M2 32 j) = M 32 j
    rw [hf 32 (by omega)]
    rfl⟩
  refine ⟨?_, ⟨?_, ?_, ?_⟩, ⟨?_, ?_, ?_⟩, MF_f h8 (hf 42 (by omega)) (by rw [hf 32 (by omega)]) (by rw [hf 32 (by omega)]) (hf 45 (by omega)) (hf 46 (by omega)), AlM_f h9 (by rw [hf 32 (by omega)]) (by rw [hf 32 (by omega)]) (hf 50 (by omega)) (hf 51 (by omega)) (hf 52 (by omega)) (hf 53 (by omega))⟩
  · have h0 : scM M2 = scM M := by
      funext k j
      unfold scM
      rw [hf 32 (by omega), hf 33 (by omega), hf 34 (by omega), hf 37 (by omega), hf 38 (by omega), hf 39 (by omega)]
    rw [h0]
    exact h1
  · rw [hf 32 (by omega)]; exact h2
  · rw [hf 40 (by omega)]; exact h3
  · rw [hf 41 (by omega)]; exact h4
  · rw [hf 32 (by omega)]; exact h5
  · rw [hf 35 (by omega)]; exact h6
  · rw [hf 36 (by omega)]; exact h7
theorem PM_same {S : Sc} {cnt : Int} {hp ht : Int → Int} {ses : Int} {bx du : Int → Int} {al : Al8} {M : ra_M} {c : Int} {q : Int × Stt} (h : q = (c, (S, cnt, hp, ht, ses, bx, du, al))) (hI : IM S cnt hp ht ses bx du al M) : PM M q (some (vI c)) (up M 32 34 0) := by
  rw [h]
  exact ⟨rfl, IM_f hI (frM_fd (frM_refl [] [34] _) _ (by decide)) (by simp) (by decide), moF_M (frM_fd (frM_refl [] [34] _) _ (by decide)) (by simp)⟩
/-- nothing changes but what nobody asks for -/
def PQ (S : Sc) (cnt : Int) (hp ht : Int → Int) (ses : Int) (bx du : Int → Int) (al : Al8) (z : Int) (M : ra_M) (r : Option ra_V) (M2 : ra_M) : Prop := r = some (vI z) ∧ IM S cnt hp ht ses bx du al M2 ∧ moF M M2
theorem PQ_same {S : Sc} {cnt : Int} {hp ht : Int → Int} {ses : Int} {bx du : Int → Int} {al : Al8} {M : ra_M} {z c : Int} (h : c = z) (hI : IM S cnt hp ht ses bx du al M) : PQ S cnt hp ht ses bx du al z M (some (vI c)) (up M 32 34 0) := by
  rw [h]
  exact ⟨rfl, IM_f hI (frM_fd (frM_refl [] [34] _) _ (by decide)) (by simp) (by decide), moF_M (frM_fd (frM_refl [] [34] _) _ (by decide)) (by simp)⟩

theorem scM_u0 (M : ra_M) (v : Int) : scM (up M 32 4 v) = up (scM M) 0 0 v := by
  funext k j
  rcases k with _ | _ | _ | _ | _ | _ | k
  · by_cases h : j = 0 <;> simp [scM, up, h]
  all_goals simp [scM, up]
theorem scM_u1 (M : ra_M) (v : Int) : scM (up M 32 7 v) = up (scM M) 0 1 v := by
  funext k j
  rcases k with _ | _ | _ | _ | _ | _ | k
  · by_cases h : j = 1 <;> simp [scM, up, h]
  all_goals simp [scM, up]
theorem scM_u2 (M : ra_M) (v : Int) : scM (up M 32 8 v) = up (scM M) 0 2 v := by
  funext k j
  rcases k with _ | _ | _ | _ | _ | _ | k
  · by_cases h : j = 2 <;> simp [scM, up, h]
  all_goals simp [scM, up]
theorem scM_u3 (M : ra_M) (v : Int) : scM (up M 32 9 v) = up (scM M) 0 3 v := by
  funext k j
  rcases k with _ | _ | _ | _ | _ | _ | k
  · by_cases h : j = 3 <;> simp [scM, up, h]
  all_goals simp [scM, up]
theorem scM_u4 (M : ra_M) (v : Int) : scM (up M 32 11 v) = up (scM M) 0 4 v := by
  funext k j
  rcases k with _ | _ | _ | _ | _ | _ | k
  · by_cases h : j = 4 <;> simp [scM, up, h]
  all_goals simp [scM, up]
theorem scM_a1 (M : ra_M) (i v : Int) : scM (up M 33 i v) = up (scM M) 1 i v := by
  funext k j
  rcases k with _ | _ | _ | _ | _ | _ | k <;> simp [scM, up]
theorem scM_a2 (M : ra_M) (i v : Int) : scM (up M 34 i v) = up (scM M) 2 i v := by
  funext k j
  rcases k with _ | _ | _ | _ | _ | _ | k <;> simp [scM, up]
theorem scM_a3 (M : ra_M) (i v : Int) : scM (up M 37 i v) = up (scM M) 3 i v := by
  funext k j
  rcases k with _ | _ | _ | _ | _ | _ | k <;> simp [scM, up]
theorem scM_a4 (M : ra_M) (i v : Int) : scM (up M 38 i v) = up (scM M) 4 i v := by
  funext k j
  rcases k with _ | _ | _ | _ | _ | _ | k <;> simp [scM, up]
theorem scM_a5 (M : ra_M) (i v : Int) : scM (up M 39 i v) = up (scM M) 5 i v := by
  funext k j
  rcases k with _ | _ | _ | _ | _ | _ | k <;> simp [scM, up]
theorem scM_o (M : ra_M) {k : Nat} (i v : Int) (h : k = 35 ∨ k = 36 ∨ 39 < k) : scM (up M k i v) = scM M := by
  have h1 : ∀ k2, k2 = 32 ∨ k2 = 33 ∨ k2 = 34 ∨ k2 = 37 ∨ k2 = 38 ∨ k2 = 39 → up M k i v k2 = M k2 := fun k2 q => up_k _ _ _ (by omega)
  funext k j
  unfold scM
  rw [h1 32 (by omega), h1 33 (by omega), h1 34 (by omega), h1 37 (by omega), h1 38 (by omega), h1 39 (by omega)]
theorem scM_o2 (M : ra_M) (i v : Int) (h : i ≠ 4 ∧ i ≠ 7 ∧ i ≠ 8 ∧ i ≠ 9 ∧ i ≠ 11) : scM (up M 32 i v) = scM M := by
  obtain ⟨h4, h7, h8, h9, h11⟩ := h
  funext k j
  unfold scM
  rw [up_j M 32 (j := i) (j2 := 4) (by omega), up_j M 32 (j := i) (j2 := 7) (by omega), up_j M 32 (j := i) (j2 := 8) (by omega), up_j M 32 (j := i) (j2 := 9) (by omega), up_j M 32 (j := i) (j2 := 11) (by omega), up_k M i v (show 33 ≠ 32 by omega), up_k M i v (show 34 ≠ 32 by omega), up_k M i v (show 37 ≠ 32 by omega), up_k M i v (show 38 ≠ 32 by omega), up_k M i v (show 39 ≠ 32 by omega)]
theorem MF_0 {S S2 : Sc} {hp ht hp2 ht2 : Int → Int} {M : ra_M} (h : MF S hp ht 0 M) : MF S2 hp2 ht2 0 M := ⟨h.1, h.2.1, ⟨h.2.2.1, fun i q hi => by simp [AN] at hi⟩⟩

set_option maxRecDepth 20000 in
set_option maxHeartbeats 2000000 in
theorem xm_note (d t : Nat) (M : ra_M) (S : Sc) (cnt : Int) (hp ht : Int → Int) (ses : Int) (bx du : Int → Int) (al : Al8) (hI : IM S cnt hp ht ses bx du al M) (hw : WF t S cnt hp ht ses bx al) (p s : Int) : Ex (d + 5) m_X8_note [vR 32, vI p, vI s] M (PM M (aNote S cnt hp ht ses bx du al p s)) := by
  refine Ex_call (Nat.le_of_ble_eq_true rfl) (fun K hK => ?_)
  show K 0 [some (vR 32), some (vI p), some (vI s)] [] M
  have hK : ra_Clo _ m_X8_note cX8_note _ K := hK
  have hI0 := hI
  obtain ⟨hs, ⟨g14, g40, g41⟩, ⟨g15, g35, g36⟩, hF, hL⟩ := hI
  obtain ⟨hS, hc, hnn, hh, hse, hbx, hal⟩ := hw
  obtain ⟨e5, e6, e7, e8, e9⟩ := scM_e hs
  obtain ⟨a2, a3, a4, a5, a6⟩ := scM_a hs
  have hs0 := hS.1
  have hs1 := hS.2.1
  have hs2 := hS.2.2.1
  have hls : lastS S = (if M 32 4 = 0 then -1 else M 34 (M 32 4 - 1)) := by unfold lastS; rw [e5, a3]
  refine k_aln hK (q := 1)  dX8_note_0 rfl (z := 32) rfl (k_ic hK (q := 2)  dX8_note_1 rfl (by decide) (k_pI hK (q := 5) (M2 := up M 32 34 0) dX8_note_2 rfl rp_X8_83 rfl rfl rfl (k_iln hK (q := 6)  dX8_note_5 rfl (z := p) rfl ?_)))
  refine k_iflt hK (q := 9) (t := 47) dX8_note_6 rfl rfl (fun h6 => ?_) (fun h6 => ?_)
  · refine k_bp hK (q := 49)  dX8_note_47 rfl (by decide) ?_
    refine k_ir hK dX8_note_49 rfl ?_
    refine PM_same (c := -2) ?_ hI0
    unfold aNote
    rw [if_pos (by omega)]
  · refine k_iln hK (q := 10)  dX8_note_9 rfl (z := p) rfl (k_bp hK (q := 12)  dX8_note_10 rfl (by decide) ?_)
    refine k_cgt hK (q := 15) (t := 47) dX8_note_12 rfl rfl (fun h12 => ?_) (fun h12 => ?_)
    · refine k_bp hK (q := 49)  dX8_note_47 rfl (by decide) ?_
      refine k_ir hK dX8_note_49 rfl ?_
      refine PM_same (c := -2) ?_ hI0
      unfold aNote
      rw [if_pos (by omega)]
    · refine k_iln hK (q := 16)  dX8_note_15 rfl (z := s) rfl ?_
      refine k_iflt hK (q := 19) (t := 47) dX8_note_16 rfl rfl (fun h16 => ?_) (fun h16 => ?_)
      · refine k_bp hK (q := 49)  dX8_note_47 rfl (by decide) ?_
        refine k_ir hK dX8_note_49 rfl ?_
        refine PM_same (c := -2) ?_ hI0
        unfold aNote
        rw [if_pos (by omega)]
      · refine k_iln hK (q := 20)  dX8_note_19 rfl (z := s) rfl (k_ldc hK (q := 22)  dX8_note_20 rfl rc_X8_111 ?_)
        refine k_cgt hK (q := 25) (t := 47) dX8_note_22 rfl rfl (fun h22 => ?_) (fun h22 => ?_)
        · refine k_bp hK (q := 49)  dX8_note_47 rfl (by decide) ?_
          refine k_ir hK dX8_note_49 rfl ?_
          refine PM_same (c := -2) ?_ hI0
          unfold aNote
          rw [if_pos (by omega)]
        · refine k_aln hK (q := 26)  dX8_note_25 rfl (z := 32) rfl (k_gI hK (q := 29) (z := M 32 4) 0 dX8_note_26 rfl rf_X8_86 rfl rfl rfl rfl ?_)
          refine k_ifle hK (q := 32) (t := 50) dX8_note_29 rfl rfl (fun h29 => ?_) (fun h29 => ?_)
          · refine k_aln hK (q := 51)  dX8_note_50 rfl (z := 32) rfl (k_gI hK (q := 54) (z := M 32 14) 0 dX8_note_51 rfl rf_X8_101 rfl rfl rfl rfl ?_)
            refine k_ifgt hK (q := 57) (t := 64) dX8_note_54 rfl rfl (fun h54 => ?_) (fun h54 => ?_)
            · refine k_bp hK (q := 66)  dX8_note_64 rfl (by decide) ?_
              refine k_ir hK dX8_note_66 rfl ?_
              refine PM_same (c := -3) ?_ hI0
              unfold aNote
              rw [if_neg (by omega)]
              rw [if_pos (by omega)]
            · refine k_aln hK (q := 58)  dX8_note_57 rfl (z := 32) rfl (k_gI hK (q := 61) (z := M 32 8) 0 dX8_note_58 rfl rf_X8_28 rfl rfl rfl rfl ?_)
              refine k_iflt hK (q := 64) (t := 67) dX8_note_61 rfl rfl (fun h61 => ?_) (fun h61 => ?_)
              · refine k_aln hK (q := 68)  dX8_note_67 rfl (z := 32) rfl (k_gI hK (q := 71) (z := M 32 4) 0 dX8_note_68 rfl rf_X8_86 rfl rfl rfl rfl (k_bp hK (q := 73)  dX8_note_71 rfl (by decide) ?_))
                refine k_cne hK (q := 76) (t := 79) dX8_note_73 rfl rfl (fun h73 => ?_) (fun h73 => ?_)
                · refine k_aln hK (q := 80)  dX8_note_79 rfl (z := 32) rfl (k_gR hK (q := 83) (r := 33) dX8_note_80 rfl rf_X8_7 rfl rfl (k_aln hK (q := 84)  dX8_note_83 rfl (z := 32) rfl (k_gI hK (q := 87) (z := M 32 4) 0 dX8_note_84 rfl rf_X8_86 rfl rfl rfl rfl (k_iln hK (q := 88)  dX8_note_87 rfl (z := p) rfl (k_ast hK (q := 89)  dX8_note_88 rfl rfl (by omega) ?_)))))
                  refine k_aln hK (q := 90)  dX8_note_89 rfl (z := 32) rfl (k_gR hK (q := 93) (r := 34) dX8_note_90 rfl rf_X8_13 rfl rfl (k_aln hK (q := 94)  dX8_note_93 rfl (z := 32) rfl (k_gI hK (q := 97) (z := M 32 4) 0 dX8_note_94 rfl rf_X8_86 rfl rfl rfl rfl (k_iln hK (q := 98)  dX8_note_97 rfl (z := s) rfl (k_ast hK (q := 99)  dX8_note_98 rfl rfl (by omega) ?_)))))
                  refine k_aln hK (q := 100)  dX8_note_99 rfl (z := 32) rfl (k_gR hK (q := 103) (r := 35) dX8_note_100 rfl rf_X8_16 rfl rfl (k_aln hK (q := 104)  dX8_note_103 rfl (z := 32) rfl (k_gI hK (q := 107) (z := M 32 4) 0 dX8_note_104 rfl rf_X8_86 rfl rfl rfl rfl (k_ic hK (q := 108)  dX8_note_107 rfl (by decide) (k_ast hK (q := 109)  dX8_note_108 rfl rfl (by omega) ?_)))))
                  refine k_aln hK (q := 110)  dX8_note_109 rfl (z := 32) rfl (k_gR hK (q := 113) (r := 36) dX8_note_110 rfl rf_X8_19 rfl rfl (k_aln hK (q := 114)  dX8_note_113 rfl (z := 32) rfl (k_gI hK (q := 117) (z := M 32 4) 0 dX8_note_114 rfl rf_X8_86 rfl rfl rfl rfl (k_ic hK (q := 118)  dX8_note_117 rfl (by decide) (k_ast hK (q := 119)  dX8_note_118 rfl rfl (by omega) ?_)))))
                  refine k_aln hK (q := 120)  dX8_note_119 rfl (z := 32) rfl (k_dup hK (q := 121)  dX8_note_120 rfl rfl (k_gI hK (q := 124) (z := M 32 4) 0 dX8_note_121 rfl rf_X8_86 rfl rfl rfl rfl (k_ic hK (q := 125)  dX8_note_124 rfl (by decide) (k_add hK (q := 126)  dX8_note_125 rfl (z := (M 32 4) + 1) rfl (by omega) (k_pI hK (q := 129) (M2 := up (up (up (up (up (up M 32 34 0) 33 (M 32 4) p) 34 (M 32 4) s) 35 (M 32 4) 0) 36 (M 32 4) 0) 32 4 ((M 32 4) + 1)) dX8_note_126 rfl rp_X8_86 rfl rfl rfl ?_)))))
                  have hc0 : cnt = 0 := by omega
                  have hs9 : scM (up (up (up (up (up (up M 32 34 0) 33 (M 32 4) p) 34 (M 32 4) s) 35 (M 32 4) 0) 36 (M 32 4) 0) 32 4 ((M 32 4) + 1)) = addN S p s := by rw [scM_u0, scM_o _ _ _ (by omega), scM_o _ _ _ (by omega), scM_a2, scM_a1, scM_o2 _ _ _ (by decide), hs, e5]; rfl
                  have hS9 : okSc (addN S p s) := okSc_addN hS (by omega) (by omega) (by omega) (by omega) (by omega)
                  refine k_aln hK (q := 130)  dX8_note_129 rfl (z := 32) rfl ?_
                  refine k_iv0 hK (q := 133) dX8_note_130 rfl rm_X8_108 rfl rfl (Nat.le_of_ble_eq_true rfl) (xm_follow _ (up (up (up (up (up (up M 32 34 0) 33 (M 32 4) p) 34 (M 32 4) s) 35 (M 32 4) 0) 36 (M 32 4) 0) 32 4 ((M 32 4) + 1)) 0 (addN S p s) hs9 hS9 hp ht (by omega) (fun q => absurd q (by omega)) (by simpa [up, hc0] using g14) (by simp only [up_k _ _ _ (show (40 : Nat) ≠ 32 by decide), up_k _ _ _ (show (40 : Nat) ≠ 33 by decide), up_k _ _ _ (show (40 : Nat) ≠ 34 by decide), up_k _ _ _ (show (40 : Nat) ≠ 35 by decide), up_k _ _ _ (show (40 : Nat) ≠ 36 by decide)]; exact g40) (by simp only [up_k _ _ _ (show (41 : Nat) ≠ 32 by decide), up_k _ _ _ (show (41 : Nat) ≠ 33 by decide), up_k _ _ _ (show (41 : Nat) ≠ 34 by decide), up_k _ _ _ (show (41 : Nat) ≠ 35 by decide), up_k _ _ _ (show (41 : Nat) ≠ 36 by decide)]; exact g41)) (fun r9 M5 h9 => ?_)
                  obtain ⟨rfl, hM5, f5⟩ := h9
                  have y4 : M5 32 4 = S 0 0 + 1 := by rw [f5.2 4 (by decide), up_same]; omega
                  show K 133 [some (vR 32), some (vI p), some (vI s)] [] M5
                  refine k_aln hK (q := 134)  dX8_note_133 rfl (z := 32) rfl (k_gI hK (q := 137) (z := M5 32 4) 0 dX8_note_134 rfl rf_X8_86 rfl rfl rfl rfl (k_ic hK (q := 138)  dX8_note_137 rfl (by decide) (k_sub hK (q := 139)  dX8_note_138 rfl (z := (M5 32 4) - 1) rfl (by omega) ?_)))
                  refine k_ir hK dX8_note_139 rfl ?_
                  have hr : M5 32 4 - 1 = S 0 0 := by omega
                  rw [hr]
                  unfold aNote
                  rw [if_neg (by omega), if_neg (by omega), if_neg (by omega)]
                  refine ⟨rfl, ⟨by rw [scM_fr f5 (by decide) (by decide)]; exact hs9, ⟨by rw [f5.2 14 (by decide)]; simpa [up] using g14, by rw [f5.1 40 (by decide) (by decide)]; simp only [up_k _ _ _ (show (40 : Nat) ≠ 32 by decide), up_k _ _ _ (show (40 : Nat) ≠ 33 by decide), up_k _ _ _ (show (40 : Nat) ≠ 34 by decide), up_k _ _ _ (show (40 : Nat) ≠ 35 by decide), up_k _ _ _ (show (40 : Nat) ≠ 36 by decide)]; exact g40, by rw [f5.1 41 (by decide) (by decide)]; simp only [up_k _ _ _ (show (41 : Nat) ≠ 32 by decide), up_k _ _ _ (show (41 : Nat) ≠ 33 by decide), up_k _ _ _ (show (41 : Nat) ≠ 34 by decide), up_k _ _ _ (show (41 : Nat) ≠ 35 by decide), up_k _ _ _ (show (41 : Nat) ≠ 36 by decide)]; exact g41⟩, ⟨by rw [f5.2 15 (by decide)]; simpa [up] using g15, ?_, ?_⟩, by rw [hc0]; exact hM5, ?_⟩, ?_⟩
                  · rw [f5.1 35 (by decide) (by decide), up_k _ _ _ (by decide), up_k _ _ _ (by decide), up_fU, e5]
                    congr 1
                  · rw [f5.1 36 (by decide) (by decide), up_k _ _ _ (by decide), up_fU, e5]
                    congr 1
                  · refine AlM_f hL (by rw [f5.2 27 (by decide)]; simp [up]) (by rw [f5.2 33 (by decide)]; simp [up]) ?_ ?_ ?_ ?_
                    · rw [f5.1 50 (by decide) (by decide)]; simp only [up_k _ _ _ (show (50 : Nat) ≠ 32 by decide), up_k _ _ _ (show (50 : Nat) ≠ 33 by decide), up_k _ _ _ (show (50 : Nat) ≠ 34 by decide), up_k _ _ _ (show (50 : Nat) ≠ 35 by decide), up_k _ _ _ (show (50 : Nat) ≠ 36 by decide)]
                    · rw [f5.1 51 (by decide) (by decide)]; simp only [up_k _ _ _ (show (51 : Nat) ≠ 32 by decide), up_k _ _ _ (show (51 : Nat) ≠ 33 by decide), up_k _ _ _ (show (51 : Nat) ≠ 34 by decide), up_k _ _ _ (show (51 : Nat) ≠ 35 by decide), up_k _ _ _ (show (51 : Nat) ≠ 36 by decide)]
                    · rw [f5.1 52 (by decide) (by decide)]; simp only [up_k _ _ _ (show (52 : Nat) ≠ 32 by decide), up_k _ _ _ (show (52 : Nat) ≠ 33 by decide), up_k _ _ _ (show (52 : Nat) ≠ 34 by decide), up_k _ _ _ (show (52 : Nat) ≠ 35 by decide), up_k _ _ _ (show (52 : Nat) ≠ 36 by decide)]
                    · rw [f5.1 53 (by decide) (by decide)]; simp only [up_k _ _ _ (show (53 : Nat) ≠ 32 by decide), up_k _ _ _ (show (53 : Nat) ≠ 33 by decide), up_k _ _ _ (show (53 : Nat) ≠ 34 by decide), up_k _ _ _ (show (53 : Nat) ≠ 35 by decide), up_k _ _ _ (show (53 : Nat) ≠ 36 by decide)]
                  · intro k hk
                    rw [f5.1 k (by omega) (by simp; omega)]
                    simp only [up_k _ _ _ (show k ≠ 32 by omega), up_k _ _ _ (show k ≠ 33 by omega), up_k _ _ _ (show k ≠ 34 by omega), up_k _ _ _ (show k ≠ 35 by omega), up_k _ _ _ (show k ≠ 36 by omega)]
                · refine k_bp hK (q := 78)  dX8_note_76 rfl (by decide) ?_
                  refine k_ir hK dX8_note_78 rfl ?_
                  refine PM_same (c := -4) ?_ hI0
                  unfold aNote
                  rw [if_neg (by omega)]
                  rw [if_neg (by omega)]
                  rw [if_pos (by omega)]
              · refine k_bp hK (q := 66)  dX8_note_64 rfl (by decide) ?_
                refine k_ir hK dX8_note_66 rfl ?_
                refine PM_same (c := -3) ?_ hI0
                unfold aNote
                rw [if_neg (by omega)]
                rw [if_pos (by omega)]
          · refine k_iln hK (q := 33)  dX8_note_32 rfl (z := s) rfl (k_aln hK (q := 34)  dX8_note_33 rfl (z := 32) rfl (k_gR hK (q := 37) (r := 34) dX8_note_34 rfl rf_X8_13 rfl rfl (k_aln hK (q := 38)  dX8_note_37 rfl (z := 32) rfl (k_gI hK (q := 41) (z := M 32 4) 0 dX8_note_38 rfl rf_X8_86 rfl rfl rfl rfl (k_ic hK (q := 42)  dX8_note_41 rfl (by decide) ?_)))))
            refine k_sub hK (q := 43)  dX8_note_42 rfl (z := (M 32 4) - 1) rfl (by omega) (k_ald hK (q := 44)  dX8_note_43 rfl (y := M 34 ((M 32 4) - 1)) rfl (by omega) rfl ?_)
            refine k_cgt hK (q := 47) (t := 50) dX8_note_44 rfl rfl (fun h44 => ?_) (fun h44 => ?_)
            · refine k_aln hK (q := 51)  dX8_note_50 rfl (z := 32) rfl (k_gI hK (q := 54) (z := M 32 14) 0 dX8_note_51 rfl rf_X8_101 rfl rfl rfl rfl ?_)
              refine k_ifgt hK (q := 57) (t := 64) dX8_note_54 rfl rfl (fun h54 => ?_) (fun h54 => ?_)
              · refine k_bp hK (q := 66)  dX8_note_64 rfl (by decide) ?_
                refine k_ir hK dX8_note_66 rfl ?_
                refine PM_same (c := -3) ?_ hI0
                unfold aNote
                rw [if_neg (by omega)]
                rw [if_pos (by omega)]
              · refine k_aln hK (q := 58)  dX8_note_57 rfl (z := 32) rfl (k_gI hK (q := 61) (z := M 32 8) 0 dX8_note_58 rfl rf_X8_28 rfl rfl rfl rfl ?_)
                refine k_iflt hK (q := 64) (t := 67) dX8_note_61 rfl rfl (fun h61 => ?_) (fun h61 => ?_)
                · refine k_aln hK (q := 68)  dX8_note_67 rfl (z := 32) rfl (k_gI hK (q := 71) (z := M 32 4) 0 dX8_note_68 rfl rf_X8_86 rfl rfl rfl rfl (k_bp hK (q := 73)  dX8_note_71 rfl (by decide) ?_))
                  refine k_cne hK (q := 76) (t := 79) dX8_note_73 rfl rfl (fun h73 => ?_) (fun h73 => ?_)
                  · refine k_aln hK (q := 80)  dX8_note_79 rfl (z := 32) rfl (k_gR hK (q := 83) (r := 33) dX8_note_80 rfl rf_X8_7 rfl rfl (k_aln hK (q := 84)  dX8_note_83 rfl (z := 32) rfl (k_gI hK (q := 87) (z := M 32 4) 0 dX8_note_84 rfl rf_X8_86 rfl rfl rfl rfl (k_iln hK (q := 88)  dX8_note_87 rfl (z := p) rfl (k_ast hK (q := 89)  dX8_note_88 rfl rfl (by omega) ?_)))))
                    refine k_aln hK (q := 90)  dX8_note_89 rfl (z := 32) rfl (k_gR hK (q := 93) (r := 34) dX8_note_90 rfl rf_X8_13 rfl rfl (k_aln hK (q := 94)  dX8_note_93 rfl (z := 32) rfl (k_gI hK (q := 97) (z := M 32 4) 0 dX8_note_94 rfl rf_X8_86 rfl rfl rfl rfl (k_iln hK (q := 98)  dX8_note_97 rfl (z := s) rfl (k_ast hK (q := 99)  dX8_note_98 rfl rfl (by omega) ?_)))))
                    refine k_aln hK (q := 100)  dX8_note_99 rfl (z := 32) rfl (k_gR hK (q := 103) (r := 35) dX8_note_100 rfl rf_X8_16 rfl rfl (k_aln hK (q := 104)  dX8_note_103 rfl (z := 32) rfl (k_gI hK (q := 107) (z := M 32 4) 0 dX8_note_104 rfl rf_X8_86 rfl rfl rfl rfl (k_ic hK (q := 108)  dX8_note_107 rfl (by decide) (k_ast hK (q := 109)  dX8_note_108 rfl rfl (by omega) ?_)))))
                    refine k_aln hK (q := 110)  dX8_note_109 rfl (z := 32) rfl (k_gR hK (q := 113) (r := 36) dX8_note_110 rfl rf_X8_19 rfl rfl (k_aln hK (q := 114)  dX8_note_113 rfl (z := 32) rfl (k_gI hK (q := 117) (z := M 32 4) 0 dX8_note_114 rfl rf_X8_86 rfl rfl rfl rfl (k_ic hK (q := 118)  dX8_note_117 rfl (by decide) (k_ast hK (q := 119)  dX8_note_118 rfl rfl (by omega) ?_)))))
                    refine k_aln hK (q := 120)  dX8_note_119 rfl (z := 32) rfl (k_dup hK (q := 121)  dX8_note_120 rfl rfl (k_gI hK (q := 124) (z := M 32 4) 0 dX8_note_121 rfl rf_X8_86 rfl rfl rfl rfl (k_ic hK (q := 125)  dX8_note_124 rfl (by decide) (k_add hK (q := 126)  dX8_note_125 rfl (z := (M 32 4) + 1) rfl (by omega) (k_pI hK (q := 129) (M2 := up (up (up (up (up (up M 32 34 0) 33 (M 32 4) p) 34 (M 32 4) s) 35 (M 32 4) 0) 36 (M 32 4) 0) 32 4 ((M 32 4) + 1)) dX8_note_126 rfl rp_X8_86 rfl rfl rfl ?_)))))
                    have hc0 : cnt = 0 := by omega
                    have hs9 : scM (up (up (up (up (up (up M 32 34 0) 33 (M 32 4) p) 34 (M 32 4) s) 35 (M 32 4) 0) 36 (M 32 4) 0) 32 4 ((M 32 4) + 1)) = addN S p s := by rw [scM_u0, scM_o _ _ _ (by omega), scM_o _ _ _ (by omega), scM_a2, scM_a1, scM_o2 _ _ _ (by decide), hs, e5]; rfl
                    have hS9 : okSc (addN S p s) := okSc_addN hS (by omega) (by omega) (by omega) (by omega) (by omega)
                    refine k_aln hK (q := 130)  dX8_note_129 rfl (z := 32) rfl ?_
                    refine k_iv0 hK (q := 133) dX8_note_130 rfl rm_X8_108 rfl rfl (Nat.le_of_ble_eq_true rfl) (xm_follow _ (up (up (up (up (up (up M 32 34 0) 33 (M 32 4) p) 34 (M 32 4) s) 35 (M 32 4) 0) 36 (M 32 4) 0) 32 4 ((M 32 4) + 1)) 0 (addN S p s) hs9 hS9 hp ht (by omega) (fun q => absurd q (by omega)) (by simpa [up, hc0] using g14) (by simp only [up_k _ _ _ (show (40 : Nat) ≠ 32 by decide), up_k _ _ _ (show (40 : Nat) ≠ 33 by decide), up_k _ _ _ (show (40 : Nat) ≠ 34 by decide), up_k _ _ _ (show (40 : Nat) ≠ 35 by decide), up_k _ _ _ (show (40 : Nat) ≠ 36 by decide)]; exact g40) (by simp only [up_k _ _ _ (show (41 : Nat) ≠ 32 by decide), up_k _ _ _ (show (41 : Nat) ≠ 33 by decide), up_k _ _ _ (show (41 : Nat) ≠ 34 by decide), up_k _ _ _ (show (41 : Nat) ≠ 35 by decide), up_k _ _ _ (show (41 : Nat) ≠ 36 by decide)]; exact g41)) (fun r9 M5 h9 => ?_)
                    obtain ⟨rfl, hM5, f5⟩ := h9
                    have y4 : M5 32 4 = S 0 0 + 1 := by rw [f5.2 4 (by decide), up_same]; omega
                    show K 133 [some (vR 32), some (vI p), some (vI s)] [] M5
                    refine k_aln hK (q := 134)  dX8_note_133 rfl (z := 32) rfl (k_gI hK (q := 137) (z := M5 32 4) 0 dX8_note_134 rfl rf_X8_86 rfl rfl rfl rfl (k_ic hK (q := 138)  dX8_note_137 rfl (by decide) (k_sub hK (q := 139)  dX8_note_138 rfl (z := (M5 32 4) - 1) rfl (by omega) ?_)))
                    refine k_ir hK dX8_note_139 rfl ?_
                    have hr : M5 32 4 - 1 = S 0 0 := by omega
                    rw [hr]
                    unfold aNote
                    rw [if_neg (by omega), if_neg (by omega), if_neg (by omega)]
                    refine ⟨rfl, ⟨by rw [scM_fr f5 (by decide) (by decide)]; exact hs9, ⟨by rw [f5.2 14 (by decide)]; simpa [up] using g14, by rw [f5.1 40 (by decide) (by decide)]; simp only [up_k _ _ _ (show (40 : Nat) ≠ 32 by decide), up_k _ _ _ (show (40 : Nat) ≠ 33 by decide), up_k _ _ _ (show (40 : Nat) ≠ 34 by decide), up_k _ _ _ (show (40 : Nat) ≠ 35 by decide), up_k _ _ _ (show (40 : Nat) ≠ 36 by decide)]; exact g40, by rw [f5.1 41 (by decide) (by decide)]; simp only [up_k _ _ _ (show (41 : Nat) ≠ 32 by decide), up_k _ _ _ (show (41 : Nat) ≠ 33 by decide), up_k _ _ _ (show (41 : Nat) ≠ 34 by decide), up_k _ _ _ (show (41 : Nat) ≠ 35 by decide), up_k _ _ _ (show (41 : Nat) ≠ 36 by decide)]; exact g41⟩, ⟨by rw [f5.2 15 (by decide)]; simpa [up] using g15, ?_, ?_⟩, by rw [hc0]; exact hM5, ?_⟩, ?_⟩
                    · rw [f5.1 35 (by decide) (by decide), up_k _ _ _ (by decide), up_k _ _ _ (by decide), up_fU, e5]
                      congr 1
                    · rw [f5.1 36 (by decide) (by decide), up_k _ _ _ (by decide), up_fU, e5]
                      congr 1
                    · refine AlM_f hL (by rw [f5.2 27 (by decide)]; simp [up]) (by rw [f5.2 33 (by decide)]; simp [up]) ?_ ?_ ?_ ?_
                      · rw [f5.1 50 (by decide) (by decide)]; simp only [up_k _ _ _ (show (50 : Nat) ≠ 32 by decide), up_k _ _ _ (show (50 : Nat) ≠ 33 by decide), up_k _ _ _ (show (50 : Nat) ≠ 34 by decide), up_k _ _ _ (show (50 : Nat) ≠ 35 by decide), up_k _ _ _ (show (50 : Nat) ≠ 36 by decide)]
                      · rw [f5.1 51 (by decide) (by decide)]; simp only [up_k _ _ _ (show (51 : Nat) ≠ 32 by decide), up_k _ _ _ (show (51 : Nat) ≠ 33 by decide), up_k _ _ _ (show (51 : Nat) ≠ 34 by decide), up_k _ _ _ (show (51 : Nat) ≠ 35 by decide), up_k _ _ _ (show (51 : Nat) ≠ 36 by decide)]
                      · rw [f5.1 52 (by decide) (by decide)]; simp only [up_k _ _ _ (show (52 : Nat) ≠ 32 by decide), up_k _ _ _ (show (52 : Nat) ≠ 33 by decide), up_k _ _ _ (show (52 : Nat) ≠ 34 by decide), up_k _ _ _ (show (52 : Nat) ≠ 35 by decide), up_k _ _ _ (show (52 : Nat) ≠ 36 by decide)]
                      · rw [f5.1 53 (by decide) (by decide)]; simp only [up_k _ _ _ (show (53 : Nat) ≠ 32 by decide), up_k _ _ _ (show (53 : Nat) ≠ 33 by decide), up_k _ _ _ (show (53 : Nat) ≠ 34 by decide), up_k _ _ _ (show (53 : Nat) ≠ 35 by decide), up_k _ _ _ (show (53 : Nat) ≠ 36 by decide)]
                    · intro k hk
                      rw [f5.1 k (by omega) (by simp; omega)]
                      simp only [up_k _ _ _ (show k ≠ 32 by omega), up_k _ _ _ (show k ≠ 33 by omega), up_k _ _ _ (show k ≠ 34 by omega), up_k _ _ _ (show k ≠ 35 by omega), up_k _ _ _ (show k ≠ 36 by omega)]
                  · refine k_bp hK (q := 78)  dX8_note_76 rfl (by decide) ?_
                    refine k_ir hK dX8_note_78 rfl ?_
                    refine PM_same (c := -4) ?_ hI0
                    unfold aNote
                    rw [if_neg (by omega)]
                    rw [if_neg (by omega)]
                    rw [if_pos (by omega)]
                · refine k_bp hK (q := 66)  dX8_note_64 rfl (by decide) ?_
                  refine k_ir hK dX8_note_66 rfl ?_
                  refine PM_same (c := -3) ?_ hI0
                  unfold aNote
                  rw [if_neg (by omega)]
                  rw [if_pos (by omega)]
            · refine k_bp hK (q := 49)  dX8_note_47 rfl (by decide) ?_
              refine k_ir hK dX8_note_49 rfl ?_
              refine PM_same (c := -2) ?_ hI0
              unfold aNote
              rw [if_pos (by omega)]

set_option maxRecDepth 20000 in
set_option maxHeartbeats 2000000 in
theorem way_loop {C : Nat → List ra_V → ra_M → (Option ra_V → ra_M → Prop) → Prop} {Q : Option ra_V → ra_M → Prop} {K : Nat → ra_L → List ra_V → ra_M → Prop} (hK : ra_Clo C m_X8_way cX8_way Q K) {S : Sc} (hS : okSc S) {M : ra_M} (hs : scM M = S) {f g : Int}
    (hX : ∀ z : Int, (z = 1 ∧ ((0 ≤ f ∧ f < S 0 0) ∧ (0 ≤ g ∧ g < S 0 0) ∧ g ≠ f + 1) ∧ hwB S f g (S 0 1).toNat = false) ∨ (z = 0 ∧ ¬ (((0 ≤ f ∧ f < S 0 0) ∧ (0 ≤ g ∧ g < S 0 0) ∧ g ≠ f + 1) ∧ hwB S f g (S 0 1).toNat = false)) → ∀ i, K 90 [some (vR 32), some (vI f), some (vI g), some (vI z), some (vI i)] [] (up M 32 34 0)) :
    ∀ (n i : Nat) (z : Int), i + n = (S 0 1).toNat → ((z = 1 ∧ ((0 ≤ f ∧ f < S 0 0) ∧ (0 ≤ g ∧ g < S 0 0) ∧ g ≠ f + 1) ∧ hwB S f g i = false) ∨ (z = 0 ∧ ¬ (((0 ≤ f ∧ f < S 0 0) ∧ (0 ≤ g ∧ g < S 0 0) ∧ g ≠ f + 1) ∧ hwB S f g i = false))) → K 45 [some (vR 32), some (vI f), some (vI g), some (vI z), some (vI (i : Nat))] [] (up M 32 34 0) := by
  obtain ⟨e5, e6, e7, e8, e9⟩ := scM_e hs
  obtain ⟨a2, a3, a4, a5, a6⟩ := scM_a hs
  have hs1 := hS.2.1
  intro n
  induction n with
  | zero =>
    intro i z hi hz
    refine k_il hK (q := 47)  dX8_way_45 rfl (z := (i : Nat)) rfl (k_aln hK (q := 48)  dX8_way_47 rfl (z := 32) rfl (k_gI hK (q := 51) (z := M 32 7) 0 dX8_way_48 rfl rf_X8_89 rfl rfl rfl rfl ?_))
    refine k_cge hK (q := 54) (t := 90) dX8_way_51 rfl rfl (fun h51 => ?_) (fun h51 => ?_)
    · have hi2 : i = (S 0 1).toNat := by omega
      subst hi2
      exact hX z hz _
    · exact absurd h51 (by omega)
  | succ n ih =>
    intro i z hi hz
    have hz01 : z = 0 ∨ z = 1 := by rcases hz with h | h; exact Or.inr h.1; exact Or.inl h.1
    have hz_keep : ¬ (M 37 (i : Nat) = f ∧ M 38 (i : Nat) = g) → ((z = 1 ∧ ((0 ≤ f ∧ f < S 0 0) ∧ (0 ≤ g ∧ g < S 0 0) ∧ g ≠ f + 1) ∧ hwB S f g (i + 1) = false) ∨ (z = 0 ∧ ¬ (((0 ≤ f ∧ f < S 0 0) ∧ (0 ≤ g ∧ g < S 0 0) ∧ g ≠ f + 1) ∧ hwB S f g (i + 1) = false))) := by
      intro hno
      have he : hwB S f g (i + 1) = hwB S f g i := by
        simp only [hwB]
        rw [← a4, ← a5]
        have : (decide (M 37 (i : Nat) = f) && decide (M 38 (i : Nat) = g)) = false := by
          rw [Bool.and_eq_false_iff, decide_eq_false_iff_not, decide_eq_false_iff_not]
          exact Classical.not_and_iff_not_or_not.mp hno
        rw [this, Bool.or_false]
      rw [he]
      exact hz
    have J83 : ∀ z2 : Int, ((z2 = 1 ∧ ((0 ≤ f ∧ f < S 0 0) ∧ (0 ≤ g ∧ g < S 0 0) ∧ g ≠ f + 1) ∧ hwB S f g (i + 1) = false) ∨ (z2 = 0 ∧ ¬ (((0 ≤ f ∧ f < S 0 0) ∧ (0 ≤ g ∧ g < S 0 0) ∧ g ≠ f + 1) ∧ hwB S f g (i + 1) = false))) → K 83 [some (vR 32), some (vI f), some (vI g), some (vI z), some (vI (i : Nat))] [vI z2] (up M 32 34 0) := by
      intro z2 hz2
      refine k_isn hK (q := 84)  dX8_way_83 rfl (L2 := [some (vR 32), some (vI f), some (vI g), some (vI z2), some (vI (i : Nat))]) (Nat.le_of_ble_eq_true rfl) rfl (k_inc hK (q := 87)  dX8_way_84 rfl (y := (i : Nat) + 1) (L2 := [some (vR 32), some (vI f), some (vI g), some (vI z2), some (vI ((i : Nat) + 1))]) rfl rfl (by omega) rfl (k_goto hK (t := 45) dX8_way_87 rfl ?_))
      exact ih (i + 1) z2 (by omega) hz2
    refine k_il hK (q := 47)  dX8_way_45 rfl (z := (i : Nat)) rfl (k_aln hK (q := 48)  dX8_way_47 rfl (z := 32) rfl (k_gI hK (q := 51) (z := M 32 7) 0 dX8_way_48 rfl rf_X8_89 rfl rfl rfl rfl ?_))
    refine k_cge hK (q := 54) (t := 90) dX8_way_51 rfl rfl (fun h51 => ?_) (fun h51 => ?_)
    · exact absurd h51 (by omega)
    · refine k_iln hK (q := 55)  dX8_way_54 rfl (z := z) rfl (k_aln hK (q := 56)  dX8_way_55 rfl (z := 32) rfl (k_gR hK (q := 59) (r := 37) dX8_way_56 rfl rf_X8_22 rfl rfl (k_il hK (q := 61)  dX8_way_59 rfl (z := (i : Nat)) rfl (k_ald hK (q := 62)  dX8_way_61 rfl (y := M 37 (i : Nat)) rfl (by omega) rfl (k_iln hK (q := 63)  dX8_way_62 rfl (z := f) rfl ?_)))))
      refine k_cne hK (q := 66) (t := 77) dX8_way_63 rfl rfl (fun h63 => ?_) (fun h63 => ?_)
      · have hno : ¬ (M 37 (i : Nat) = f ∧ M 38 (i : Nat) = g) := fun q => h63 q.1
        refine k_ic hK (q := 78)  dX8_way_77 rfl (by decide) (k_goto hK (t := 82) dX8_way_78 rfl ?_)
        refine k_and hK (q := 83) (m := z.toNat) (n := 1) dX8_way_82 rfl (by omega) rfl (z := z) (by rcases hz01 with h | h <;> subst h <;> rfl) ?_
        exact J83 z (hz_keep hno)
      · refine k_aln hK (q := 67)  dX8_way_66 rfl (z := 32) rfl (k_gR hK (q := 70) (r := 38) dX8_way_67 rfl rf_X8_25 rfl rfl (k_il hK (q := 72)  dX8_way_70 rfl (z := (i : Nat)) rfl (k_ald hK (q := 73)  dX8_way_72 rfl (y := M 38 (i : Nat)) rfl (by omega) rfl (k_iln hK (q := 74)  dX8_way_73 rfl (z := g) rfl ?_))))
        refine k_ceq hK (q := 77) (t := 81) dX8_way_74 rfl rfl (fun h74 => ?_) (fun h74 => ?_)
        · refine k_ic hK (q := 82)  dX8_way_81 rfl (by decide) ?_
          refine k_and hK (q := 83) (m := z.toNat) (n := 0) dX8_way_82 rfl (by omega) rfl (z := 0) (by simp) ?_
          exact J83 0 (Or.inr ⟨rfl, fun q => by have q2 := q.2; simp only [hwB] at q2; rw [← a4, ← a5, h63, h74] at q2; simp at q2⟩)
        · have hno : ¬ (M 37 (i : Nat) = f ∧ M 38 (i : Nat) = g) := fun q => h74 q.2
          refine k_ic hK (q := 78)  dX8_way_77 rfl (by decide) (k_goto hK (t := 82) dX8_way_78 rfl ?_)
          refine k_and hK (q := 83) (m := z.toNat) (n := 1) dX8_way_82 rfl (by omega) rfl (z := z) (by rcases hz01 with h | h <;> subst h <;> rfl) ?_
          exact J83 z (hz_keep hno)

set_option maxRecDepth 20000 in
set_option maxHeartbeats 2000000 in
theorem xm_way (d t : Nat) (M : ra_M) (S : Sc) (cnt : Int) (hp ht : Int → Int) (ses : Int) (bx du : Int → Int) (al : Al8) (hI : IM S cnt hp ht ses bx du al M) (hw : WF t S cnt hp ht ses bx al) (f g : Int) : Ex d m_X8_way [vR 32, vI f, vI g] M (PM M (aWay S cnt hp ht ses bx du al f g)) := by
  refine Ex_leaf (Nat.le_of_ble_eq_true rfl) (fun C K hK => ?_)
  show K 0 [some (vR 32), some (vI f), some (vI g), none, none] [] M
  have hK : ra_Clo _ m_X8_way cX8_way _ K := hK
  have hI0 := hI
  obtain ⟨hs, ⟨g14, g40, g41⟩, ⟨g15, g35, g36⟩, hF, hL⟩ := hI
  obtain ⟨hS, hc, hnn, hh, hse, hbx, hal⟩ := hw
  obtain ⟨e5, e6, e7, e8, e9⟩ := scM_e hs
  obtain ⟨a2, a3, a4, a5, a6⟩ := scM_a hs
  have hs0 := hS.1
  have hs1 := hS.2.1
  have hs2 := hS.2.2.1
  have J90 : ∀ z : Int, (z = 1 ∧ ((0 ≤ f ∧ f < S 0 0) ∧ (0 ≤ g ∧ g < S 0 0) ∧ g ≠ f + 1) ∧ hwB S f g (S 0 1).toNat = false) ∨ (z = 0 ∧ ¬ (((0 ≤ f ∧ f < S 0 0) ∧ (0 ≤ g ∧ g < S 0 0) ∧ g ≠ f + 1) ∧ hwB S f g (S 0 1).toNat = false)) → ∀ i9, K 90 [some (vR 32), some (vI f), some (vI g), some (vI z), some (vI i9)] [] (up M 32 34 0) := by
    intro z hz i9
    refine k_iln hK (q := 91)  dX8_way_90 rfl (z := z) rfl ?_
    refine k_ifne hK (q := 94) (t := 97) dX8_way_91 rfl rfl (fun h91 => ?_) (fun h91 => ?_)
    · have hg : (0 ≤ f ∧ f < S 0 0) ∧ (0 ≤ g ∧ g < S 0 0) ∧ g ≠ f + 1 ∧ hwB S f g (S 0 1).toNat = false := by
        rcases hz with ⟨h1, h2, h3⟩ | ⟨h1, h2⟩
        · exact ⟨h2.1, h2.2.1, h2.2.2, h3⟩
        · exact absurd h1 h91
      refine k_aln hK (q := 98)  dX8_way_97 rfl (z := 32) rfl (k_gI hK (q := 101) (z := M 32 14) 0 dX8_way_98 rfl rf_X8_101 rfl rfl rfl rfl ?_)
      refine k_ifle hK (q := 104) (t := 107) dX8_way_101 rfl rfl (fun h101 => ?_) (fun h101 => ?_)
      · refine k_aln hK (q := 108)  dX8_way_107 rfl (z := 32) rfl (k_gI hK (q := 111) (z := M 32 7) 0 dX8_way_108 rfl rf_X8_89 rfl rfl rfl rfl (k_bp hK (q := 113)  dX8_way_111 rfl (by decide) ?_))
        refine k_cne hK (q := 116) (t := 119) dX8_way_113 rfl rfl (fun h113 => ?_) (fun h113 => ?_)
        · refine k_aln hK (q := 120)  dX8_way_119 rfl (z := 32) rfl (k_gR hK (q := 123) (r := 37) dX8_way_120 rfl rf_X8_22 rfl rfl (k_aln hK (q := 124)  dX8_way_123 rfl (z := 32) rfl (k_gI hK (q := 127) (z := M 32 7) 0 dX8_way_124 rfl rf_X8_89 rfl rfl rfl rfl (k_iln hK (q := 128)  dX8_way_127 rfl (z := f) rfl (k_ast hK (q := 129)  dX8_way_128 rfl rfl (by omega) ?_)))))
          refine k_aln hK (q := 130)  dX8_way_129 rfl (z := 32) rfl (k_gR hK (q := 133) (r := 38) dX8_way_130 rfl rf_X8_25 rfl rfl (k_aln hK (q := 134)  dX8_way_133 rfl (z := 32) rfl (k_gI hK (q := 137) (z := M 32 7) 0 dX8_way_134 rfl rf_X8_89 rfl rfl rfl rfl (k_iln hK (q := 138)  dX8_way_137 rfl (z := g) rfl (k_ast hK (q := 139)  dX8_way_138 rfl rfl (by omega) ?_)))))
          refine k_aln hK (q := 140)  dX8_way_139 rfl (z := 32) rfl (k_dup hK (q := 141)  dX8_way_140 rfl rfl (k_gI hK (q := 144) (z := M 32 7) 0 dX8_way_141 rfl rf_X8_89 rfl rfl rfl rfl (k_ic hK (q := 145)  dX8_way_144 rfl (by decide) (k_add hK (q := 146)  dX8_way_145 rfl (z := (M 32 7) + 1) rfl (by omega) (k_pI hK (q := 149) (M2 := up (up (up (up M 32 34 0) 37 (M 32 7) f) 38 (M 32 7) g) 32 7 ((M 32 7) + 1)) dX8_way_146 rfl rp_X8_89 rfl rfl rfl ?_)))))
          refine k_aln hK (q := 150)  dX8_way_149 rfl (z := 32) rfl (k_gI hK (q := 153) (z := (M 32 7) + 1) 0 dX8_way_150 rfl rf_X8_89 rfl rfl rfl rfl (k_ic hK (q := 154)  dX8_way_153 rfl (by decide) (k_sub hK (q := 155)  dX8_way_154 rfl (z := ((M 32 7) + 1) - 1) rfl (by omega) ?_)))
          refine k_ir hK dX8_way_155 rfl ?_
          have hc0 : cnt = 0 := by omega
          have hr : M 32 7 + 1 - 1 = S 0 1 := by omega
          rw [hr]
          unfold aWay
          rw [if_neg (fun q => q hg), if_neg (by omega), if_neg (by omega)]
          have fx : ∀ k, k ≠ 32 → k ≠ 37 → k ≠ 38 → (up (up (up (up M 32 34 0) 37 (M 32 7) f) 38 (M 32 7) g) 32 7 ((M 32 7) + 1)) k = M k := by intro k b c e; rw [up_k _ _ _ b, up_k _ _ _ e, up_k _ _ _ c, up_k _ _ _ b]
          refine ⟨rfl, ⟨by rw [scM_u1, scM_a4, scM_a3, scM_o2 _ _ _ (by decide), hs, e6]; rfl, ⟨by simpa [up] using g14, by rw [fx 40 (by decide) (by decide) (by decide)]; exact g40, by rw [fx 41 (by decide) (by decide) (by decide)]; exact g41⟩, ⟨by simpa [up] using g15, by rw [fx 35 (by decide) (by decide) (by decide)]; exact g35, by rw [fx 36 (by decide) (by decide) (by decide)]; exact g36⟩, ?_, AlM_f hL (by simp [up]) (by simp [up]) (fx 50 (by decide) (by decide) (by decide)) (fx 51 (by decide) (by decide) (by decide)) (fx 52 (by decide) (by decide) (by decide)) (fx 53 (by decide) (by decide) (by decide))⟩, fun k hk => fx k (by omega) (by omega) (by omega)⟩
          rw [hc0] at hF ⊢
          exact MF_f (MF_0 hF) (fx 42 (by decide) (by decide) (by decide)) (by simp [up]) (by simp [up]) (fx 45 (by decide) (by decide) (by decide)) (fx 46 (by decide) (by decide) (by decide))
        · refine k_bp hK (q := 118)  dX8_way_116 rfl (by decide) ?_
          refine k_ir hK dX8_way_118 rfl ?_
          refine PM_same (c := -4) ?_ hI0
          unfold aWay
          rw [if_neg (fun q => q hg), if_neg (by omega), if_pos (by omega)]
      · refine k_bp hK (q := 106)  dX8_way_104 rfl (by decide) ?_
        refine k_ir hK dX8_way_106 rfl ?_
        refine PM_same (c := -3) ?_ hI0
        unfold aWay
        rw [if_neg (fun q => q hg), if_pos (by omega)]
    · have hg : ¬ ((0 ≤ f ∧ f < S 0 0) ∧ (0 ≤ g ∧ g < S 0 0) ∧ g ≠ f + 1 ∧ hwB S f g (S 0 1).toNat = false) := by
        rcases hz with ⟨h1, h2, h3⟩ | ⟨h1, h2⟩
        · exact absurd h91 (by omega)
        · exact fun q => h2 ⟨⟨q.1, q.2.1, q.2.2.1⟩, q.2.2.2⟩
      refine k_bp hK (q := 96)  dX8_way_94 rfl (by decide) ?_
      refine k_ir hK dX8_way_96 rfl ?_
      refine PM_same (c := -2) ?_ hI0
      unfold aWay
      rw [if_pos hg]
  refine k_aln hK (q := 1)  dX8_way_0 rfl (z := 32) rfl (k_ic hK (q := 2)  dX8_way_1 rfl (by decide) (k_pI hK (q := 5) (M2 := up M 32 34 0) dX8_way_2 rfl rp_X8_83 rfl rfl rfl (k_iln hK (q := 6)  dX8_way_5 rfl (z := f) rfl ?_)))
  refine k_iflt hK (q := 9) (t := 40) dX8_way_6 rfl rfl (fun h6 => ?_) (fun h6 => ?_)
  · refine k_ic hK (q := 41)  dX8_way_40 rfl (by decide) (k_isn hK (q := 42)  dX8_way_41 rfl (L2 := [some (vR 32), some (vI f), some (vI g), some (vI 0), none]) (Nat.le_of_ble_eq_true rfl) rfl (k_ic hK (q := 43)  dX8_way_42 rfl (by decide) (k_is hK (q := 45)  dX8_way_43 rfl (L2 := [some (vR 32), some (vI f), some (vI g), some (vI 0), some (vI 0)]) (Nat.le_of_ble_eq_true rfl) rfl ?_)))
    refine way_loop hK hS hs (fun z hz i9 => ?_) (S 0 1).toNat 0 0 (by omega) (Or.inr ⟨rfl, fun q => by have q1 := q.1; omega⟩)
    exact J90 z hz i9
  · refine k_iln hK (q := 10)  dX8_way_9 rfl (z := f) rfl (k_aln hK (q := 11)  dX8_way_10 rfl (z := 32) rfl (k_gI hK (q := 14) (z := M 32 4) 0 dX8_way_11 rfl rf_X8_86 rfl rfl rfl rfl ?_))
    refine k_cge hK (q := 17) (t := 40) dX8_way_14 rfl rfl (fun h14 => ?_) (fun h14 => ?_)
    · refine k_ic hK (q := 41)  dX8_way_40 rfl (by decide) (k_isn hK (q := 42)  dX8_way_41 rfl (L2 := [some (vR 32), some (vI f), some (vI g), some (vI 0), none]) (Nat.le_of_ble_eq_true rfl) rfl (k_ic hK (q := 43)  dX8_way_42 rfl (by decide) (k_is hK (q := 45)  dX8_way_43 rfl (L2 := [some (vR 32), some (vI f), some (vI g), some (vI 0), some (vI 0)]) (Nat.le_of_ble_eq_true rfl) rfl ?_)))
      refine way_loop hK hS hs (fun z hz i9 => ?_) (S 0 1).toNat 0 0 (by omega) (Or.inr ⟨rfl, fun q => by have q1 := q.1; omega⟩)
      exact J90 z hz i9
    · refine k_iln hK (q := 18)  dX8_way_17 rfl (z := g) rfl ?_
      refine k_iflt hK (q := 21) (t := 40) dX8_way_18 rfl rfl (fun h18 => ?_) (fun h18 => ?_)
      · refine k_ic hK (q := 41)  dX8_way_40 rfl (by decide) (k_isn hK (q := 42)  dX8_way_41 rfl (L2 := [some (vR 32), some (vI f), some (vI g), some (vI 0), none]) (Nat.le_of_ble_eq_true rfl) rfl (k_ic hK (q := 43)  dX8_way_42 rfl (by decide) (k_is hK (q := 45)  dX8_way_43 rfl (L2 := [some (vR 32), some (vI f), some (vI g), some (vI 0), some (vI 0)]) (Nat.le_of_ble_eq_true rfl) rfl ?_)))
        refine way_loop hK hS hs (fun z hz i9 => ?_) (S 0 1).toNat 0 0 (by omega) (Or.inr ⟨rfl, fun q => by have q1 := q.1; omega⟩)
        exact J90 z hz i9
      · refine k_iln hK (q := 22)  dX8_way_21 rfl (z := g) rfl (k_aln hK (q := 23)  dX8_way_22 rfl (z := 32) rfl (k_gI hK (q := 26) (z := M 32 4) 0 dX8_way_23 rfl rf_X8_86 rfl rfl rfl rfl ?_))
        refine k_cge hK (q := 29) (t := 40) dX8_way_26 rfl rfl (fun h26 => ?_) (fun h26 => ?_)
        · refine k_ic hK (q := 41)  dX8_way_40 rfl (by decide) (k_isn hK (q := 42)  dX8_way_41 rfl (L2 := [some (vR 32), some (vI f), some (vI g), some (vI 0), none]) (Nat.le_of_ble_eq_true rfl) rfl (k_ic hK (q := 43)  dX8_way_42 rfl (by decide) (k_is hK (q := 45)  dX8_way_43 rfl (L2 := [some (vR 32), some (vI f), some (vI g), some (vI 0), some (vI 0)]) (Nat.le_of_ble_eq_true rfl) rfl ?_)))
          refine way_loop hK hS hs (fun z hz i9 => ?_) (S 0 1).toNat 0 0 (by omega) (Or.inr ⟨rfl, fun q => by have q1 := q.1; omega⟩)
          exact J90 z hz i9
        · refine k_iln hK (q := 30)  dX8_way_29 rfl (z := g) rfl (k_iln hK (q := 31)  dX8_way_30 rfl (z := f) rfl (k_ic hK (q := 32)  dX8_way_31 rfl (by decide) (k_add hK (q := 33)  dX8_way_32 rfl (z := f + 1) rfl (by omega) ?_)))
          refine k_ceq hK (q := 36) (t := 40) dX8_way_33 rfl rfl (fun h33 => ?_) (fun h33 => ?_)
          · refine k_ic hK (q := 41)  dX8_way_40 rfl (by decide) (k_isn hK (q := 42)  dX8_way_41 rfl (L2 := [some (vR 32), some (vI f), some (vI g), some (vI 0), none]) (Nat.le_of_ble_eq_true rfl) rfl (k_ic hK (q := 43)  dX8_way_42 rfl (by decide) (k_is hK (q := 45)  dX8_way_43 rfl (L2 := [some (vR 32), some (vI f), some (vI g), some (vI 0), some (vI 0)]) (Nat.le_of_ble_eq_true rfl) rfl ?_)))
            refine way_loop hK hS hs (fun z hz i9 => ?_) (S 0 1).toNat 0 0 (by omega) (Or.inr ⟨rfl, fun q => by have q1 := q.1; omega⟩)
            exact J90 z hz i9
          · refine k_ic hK (q := 37)  dX8_way_36 rfl (by decide) (k_goto hK (t := 41) dX8_way_37 rfl (k_isn hK (q := 42)  dX8_way_41 rfl (L2 := [some (vR 32), some (vI f), some (vI g), some (vI 1), none]) (Nat.le_of_ble_eq_true rfl) rfl (k_ic hK (q := 43)  dX8_way_42 rfl (by decide) (k_is hK (q := 45)  dX8_way_43 rfl (L2 := [some (vR 32), some (vI f), some (vI g), some (vI 1), some (vI 0)]) (Nat.le_of_ble_eq_true rfl) rfl ?_))))
            refine way_loop hK hS hs (fun z hz i9 => ?_) (S 0 1).toNat 0 1 (by omega) (Or.inl ⟨rfl, ⟨by omega, by omega, by omega⟩, rfl⟩)
            exact J90 z hz i9

set_option maxRecDepth 20000 in
set_option maxHeartbeats 2000000 in
theorem xm_loop (d t : Nat) (M : ra_M) (S : Sc) (cnt : Int) (hp ht : Int → Int) (ses : Int) (bx du : Int → Int) (al : Al8) (hI : IM S cnt hp ht ses bx du al M) (hw : WF t S cnt hp ht ses bx al) (f g : Int) : Ex (d + 5) m_X8_loop [vR 32, vI f, vI g] M (PM M (aLoop S cnt hp ht ses bx du al f g)) := by
  refine Ex_call (Nat.le_of_ble_eq_true rfl) (fun K hK => ?_)
  show K 0 [some (vR 32), some (vI f), some (vI g), none] [] M
  have hK : ra_Clo _ m_X8_loop cX8_loop _ K := hK
  have hI0 := hI
  obtain ⟨hs, ⟨g14, g40, g41⟩, ⟨g15, g35, g36⟩, hF, hL⟩ := hI
  obtain ⟨hS, hc, hnn, hh, hse, hbx, hal⟩ := hw
  obtain ⟨e5, e6, e7, e8, e9⟩ := scM_e hs
  obtain ⟨a2, a3, a4, a5, a6⟩ := scM_a hs
  have hs0 := hS.1
  have hs1 := hS.2.1
  have hs2 := hS.2.2.1
  refine k_aln hK (q := 1)  dX8_loop_0 rfl (z := 32) rfl (k_ic hK (q := 2)  dX8_loop_1 rfl (by decide) (k_pI hK (q := 5) (M2 := up M 32 34 0) dX8_loop_2 rfl rp_X8_83 rfl rfl rfl (k_iln hK (q := 6)  dX8_loop_5 rfl (z := f) rfl (k_ic hK (q := 7)  dX8_loop_6 rfl (by decide) ?_))))
  refine k_ceq hK (q := 10) (t := 38) dX8_loop_7 rfl rfl (fun h7 => ?_) (fun h7 => ?_)
  · refine k_aln hK (q := 39)  dX8_loop_38 rfl (z := 32) rfl (k_gI hK (q := 42) (z := M 32 14) 0 dX8_loop_39 rfl rf_X8_101 rfl rfl rfl rfl ?_)
    refine k_ifle hK (q := 45) (t := 48) dX8_loop_42 rfl rfl (fun h42 => ?_) (fun h42 => ?_)
    · refine k_aln hK (q := 49)  dX8_loop_48 rfl (z := 32) rfl (k_gI hK (q := 52) (z := M 32 8) 0 dX8_loop_49 rfl rf_X8_28 rfl rfl rfl rfl ?_)
      refine k_iflt hK (q := 55) (t := 59) dX8_loop_52 rfl rfl (fun h52 => ?_) (fun h52 => ?_)
      · refine k_ic hK (q := 60)  dX8_loop_59 rfl (by decide) (k_isn hK (q := 61)  dX8_loop_60 rfl (L2 := [some (vR 32), some (vI f), some (vI g), some (vI 0)]) (Nat.le_of_ble_eq_true rfl) rfl (k_aln hK (q := 62)  dX8_loop_61 rfl (z := 32) rfl (k_iln hK (q := 63)  dX8_loop_62 rfl (z := f) rfl (k_pI hK (q := 66) (M2 := up (up M 32 34 0) 32 8 f) dX8_loop_63 rfl rp_X8_28 rfl rfl rfl (k_aln hK (q := 67)  dX8_loop_66 rfl (z := 32) rfl ?_)))))
        refine k_iln hK (q := 68)  dX8_loop_67 rfl (z := f) rfl ?_
        refine k_ifge hK (q := 71) (t := 75) dX8_loop_68 rfl rfl (fun h68 => ?_) (fun h68 => ?_)
        · refine k_iln hK (q := 76)  dX8_loop_75 rfl (z := g) rfl (k_pI hK (q := 79) (M2 := up (up (up M 32 34 0) 32 8 f) 32 9 g) dX8_loop_76 rfl rp_X8_32 rfl rfl rfl ?_)
          have hc0 : cnt = 0 := by omega
          have hs9 : scM (up (up (up M 32 34 0) 32 8 f) 32 9 g) = up (up S 0 2 f) 0 3 (if f = -1 then -1 else g) := by rw [scM_u3, scM_u2, scM_o2 _ _ _ (by decide), hs, if_neg (by omega)]
          refine k_aln hK (q := 80)  dX8_loop_79 rfl (z := 32) rfl ?_
          refine k_iv0 hK (q := 83) dX8_loop_80 rfl rm_X8_108 rfl rfl (Nat.le_of_ble_eq_true rfl) (xm_follow _ (up (up (up M 32 34 0) 32 8 f) 32 9 g) 0 (up (up S 0 2 f) 0 3 (if f = -1 then -1 else g)) hs9 (okSc_loop hS (by omega)) hp ht (by omega) (fun q => absurd q (by omega)) (by simpa [up, hc0] using g14) (by simp only [up_k _ _ _ (show (40 : Nat) ≠ 32 by decide)]; exact g40) (by simp only [up_k _ _ _ (show (41 : Nat) ≠ 32 by decide)]; exact g41)) (fun r9 M5 h9 => ?_)
          obtain ⟨rfl, hM5, f5⟩ := h9
          show K 83 [some (vR 32), some (vI f), some (vI g), some (vI 0)] [] M5
          refine k_iln hK (q := 84)  dX8_loop_83 rfl (z := 0) rfl ?_
          refine k_ir hK dX8_loop_84 rfl ?_
          unfold aLoop
          rw [if_neg (by omega), if_neg (by omega), if_neg (by omega)]
          refine ⟨rfl, ⟨by rw [scM_fr f5 (by decide) (by decide)]; exact hs9, ⟨by rw [f5.2 14 (by decide)]; simpa [up] using g14, by rw [f5.1 40 (by decide) (by decide)]; simp only [up_k _ _ _ (show (40 : Nat) ≠ 32 by decide)]; exact g40, by rw [f5.1 41 (by decide) (by decide)]; simp only [up_k _ _ _ (show (41 : Nat) ≠ 32 by decide)]; exact g41⟩, ⟨by rw [f5.2 15 (by decide)]; simpa [up] using g15, by rw [f5.1 35 (by decide) (by decide)]; simp only [up_k _ _ _ (show (35 : Nat) ≠ 32 by decide)]; exact g35, by rw [f5.1 36 (by decide) (by decide)]; simp only [up_k _ _ _ (show (36 : Nat) ≠ 32 by decide)]; exact g36⟩, by rw [hc0]; exact hM5, ?_⟩, ?_⟩
          · refine AlM_f hL (by rw [f5.2 27 (by decide)]; simp [up]) (by rw [f5.2 33 (by decide)]; simp [up]) ?_ ?_ ?_ ?_
            · rw [f5.1 50 (by decide) (by decide)]; simp only [up_k _ _ _ (show (50 : Nat) ≠ 32 by decide)]
            · rw [f5.1 51 (by decide) (by decide)]; simp only [up_k _ _ _ (show (51 : Nat) ≠ 32 by decide)]
            · rw [f5.1 52 (by decide) (by decide)]; simp only [up_k _ _ _ (show (52 : Nat) ≠ 32 by decide)]
            · rw [f5.1 53 (by decide) (by decide)]; simp only [up_k _ _ _ (show (53 : Nat) ≠ 32 by decide)]
          · intro k hk
            rw [f5.1 k (by omega) (by simp; omega)]
            simp only [up_k _ _ _ (show k ≠ 32 by omega)]
        · refine k_ic hK (q := 72)  dX8_loop_71 rfl (by decide) (k_goto hK (t := 76) dX8_loop_72 rfl (k_pI hK (q := 79) (M2 := up (up (up M 32 34 0) 32 8 f) 32 9 (-1)) dX8_loop_76 rfl rp_X8_32 rfl rfl rfl ?_))
          have hc0 : cnt = 0 := by omega
          have hs9 : scM (up (up (up M 32 34 0) 32 8 f) 32 9 (-1)) = up (up S 0 2 f) 0 3 (if f = -1 then -1 else g) := by rw [scM_u3, scM_u2, scM_o2 _ _ _ (by decide), hs, if_pos (by omega)]
          refine k_aln hK (q := 80)  dX8_loop_79 rfl (z := 32) rfl ?_
          refine k_iv0 hK (q := 83) dX8_loop_80 rfl rm_X8_108 rfl rfl (Nat.le_of_ble_eq_true rfl) (xm_follow _ (up (up (up M 32 34 0) 32 8 f) 32 9 (-1)) 0 (up (up S 0 2 f) 0 3 (if f = -1 then -1 else g)) hs9 (okSc_loop hS (by omega)) hp ht (by omega) (fun q => absurd q (by omega)) (by simpa [up, hc0] using g14) (by simp only [up_k _ _ _ (show (40 : Nat) ≠ 32 by decide)]; exact g40) (by simp only [up_k _ _ _ (show (41 : Nat) ≠ 32 by decide)]; exact g41)) (fun r9 M5 h9 => ?_)
          obtain ⟨rfl, hM5, f5⟩ := h9
          show K 83 [some (vR 32), some (vI f), some (vI g), some (vI 0)] [] M5
          refine k_iln hK (q := 84)  dX8_loop_83 rfl (z := 0) rfl ?_
          refine k_ir hK dX8_loop_84 rfl ?_
          unfold aLoop
          rw [if_neg (by omega), if_neg (by omega), if_neg (by omega)]
          refine ⟨rfl, ⟨by rw [scM_fr f5 (by decide) (by decide)]; exact hs9, ⟨by rw [f5.2 14 (by decide)]; simpa [up] using g14, by rw [f5.1 40 (by decide) (by decide)]; simp only [up_k _ _ _ (show (40 : Nat) ≠ 32 by decide)]; exact g40, by rw [f5.1 41 (by decide) (by decide)]; simp only [up_k _ _ _ (show (41 : Nat) ≠ 32 by decide)]; exact g41⟩, ⟨by rw [f5.2 15 (by decide)]; simpa [up] using g15, by rw [f5.1 35 (by decide) (by decide)]; simp only [up_k _ _ _ (show (35 : Nat) ≠ 32 by decide)]; exact g35, by rw [f5.1 36 (by decide) (by decide)]; simp only [up_k _ _ _ (show (36 : Nat) ≠ 32 by decide)]; exact g36⟩, by rw [hc0]; exact hM5, ?_⟩, ?_⟩
          · refine AlM_f hL (by rw [f5.2 27 (by decide)]; simp [up]) (by rw [f5.2 33 (by decide)]; simp [up]) ?_ ?_ ?_ ?_
            · rw [f5.1 50 (by decide) (by decide)]; simp only [up_k _ _ _ (show (50 : Nat) ≠ 32 by decide)]
            · rw [f5.1 51 (by decide) (by decide)]; simp only [up_k _ _ _ (show (51 : Nat) ≠ 32 by decide)]
            · rw [f5.1 52 (by decide) (by decide)]; simp only [up_k _ _ _ (show (52 : Nat) ≠ 32 by decide)]
            · rw [f5.1 53 (by decide) (by decide)]; simp only [up_k _ _ _ (show (53 : Nat) ≠ 32 by decide)]
          · intro k hk
            rw [f5.1 k (by omega) (by simp; omega)]
            simp only [up_k _ _ _ (show k ≠ 32 by omega)]
      · refine k_ic hK (q := 56)  dX8_loop_55 rfl (by decide) (k_goto hK (t := 60) dX8_loop_56 rfl (k_isn hK (q := 61)  dX8_loop_60 rfl (L2 := [some (vR 32), some (vI f), some (vI g), some (vI 1)]) (Nat.le_of_ble_eq_true rfl) rfl (k_aln hK (q := 62)  dX8_loop_61 rfl (z := 32) rfl (k_iln hK (q := 63)  dX8_loop_62 rfl (z := f) rfl (k_pI hK (q := 66) (M2 := up (up M 32 34 0) 32 8 f) dX8_loop_63 rfl rp_X8_28 rfl rfl rfl ?_)))))
        refine k_aln hK (q := 67)  dX8_loop_66 rfl (z := 32) rfl (k_iln hK (q := 68)  dX8_loop_67 rfl (z := f) rfl ?_)
        refine k_ifge hK (q := 71) (t := 75) dX8_loop_68 rfl rfl (fun h68 => ?_) (fun h68 => ?_)
        · refine k_iln hK (q := 76)  dX8_loop_75 rfl (z := g) rfl (k_pI hK (q := 79) (M2 := up (up (up M 32 34 0) 32 8 f) 32 9 g) dX8_loop_76 rfl rp_X8_32 rfl rfl rfl ?_)
          have hc0 : cnt = 0 := by omega
          have hs9 : scM (up (up (up M 32 34 0) 32 8 f) 32 9 g) = up (up S 0 2 f) 0 3 (if f = -1 then -1 else g) := by rw [scM_u3, scM_u2, scM_o2 _ _ _ (by decide), hs, if_neg (by omega)]
          refine k_aln hK (q := 80)  dX8_loop_79 rfl (z := 32) rfl ?_
          refine k_iv0 hK (q := 83) dX8_loop_80 rfl rm_X8_108 rfl rfl (Nat.le_of_ble_eq_true rfl) (xm_follow _ (up (up (up M 32 34 0) 32 8 f) 32 9 g) 0 (up (up S 0 2 f) 0 3 (if f = -1 then -1 else g)) hs9 (okSc_loop hS (by omega)) hp ht (by omega) (fun q => absurd q (by omega)) (by simpa [up, hc0] using g14) (by simp only [up_k _ _ _ (show (40 : Nat) ≠ 32 by decide)]; exact g40) (by simp only [up_k _ _ _ (show (41 : Nat) ≠ 32 by decide)]; exact g41)) (fun r9 M5 h9 => ?_)
          obtain ⟨rfl, hM5, f5⟩ := h9
          show K 83 [some (vR 32), some (vI f), some (vI g), some (vI 1)] [] M5
          refine k_iln hK (q := 84)  dX8_loop_83 rfl (z := 1) rfl ?_
          refine k_ir hK dX8_loop_84 rfl ?_
          unfold aLoop
          rw [if_neg (by omega), if_neg (by omega), if_pos (by omega)]
          refine ⟨rfl, ⟨by rw [scM_fr f5 (by decide) (by decide)]; exact hs9, ⟨by rw [f5.2 14 (by decide)]; simpa [up] using g14, by rw [f5.1 40 (by decide) (by decide)]; simp only [up_k _ _ _ (show (40 : Nat) ≠ 32 by decide)]; exact g40, by rw [f5.1 41 (by decide) (by decide)]; simp only [up_k _ _ _ (show (41 : Nat) ≠ 32 by decide)]; exact g41⟩, ⟨by rw [f5.2 15 (by decide)]; simpa [up] using g15, by rw [f5.1 35 (by decide) (by decide)]; simp only [up_k _ _ _ (show (35 : Nat) ≠ 32 by decide)]; exact g35, by rw [f5.1 36 (by decide) (by decide)]; simp only [up_k _ _ _ (show (36 : Nat) ≠ 32 by decide)]; exact g36⟩, by rw [hc0]; exact hM5, ?_⟩, ?_⟩
          · refine AlM_f hL (by rw [f5.2 27 (by decide)]; simp [up]) (by rw [f5.2 33 (by decide)]; simp [up]) ?_ ?_ ?_ ?_
            · rw [f5.1 50 (by decide) (by decide)]; simp only [up_k _ _ _ (show (50 : Nat) ≠ 32 by decide)]
            · rw [f5.1 51 (by decide) (by decide)]; simp only [up_k _ _ _ (show (51 : Nat) ≠ 32 by decide)]
            · rw [f5.1 52 (by decide) (by decide)]; simp only [up_k _ _ _ (show (52 : Nat) ≠ 32 by decide)]
            · rw [f5.1 53 (by decide) (by decide)]; simp only [up_k _ _ _ (show (53 : Nat) ≠ 32 by decide)]
          · intro k hk
            rw [f5.1 k (by omega) (by simp; omega)]
            simp only [up_k _ _ _ (show k ≠ 32 by omega)]
        · refine k_ic hK (q := 72)  dX8_loop_71 rfl (by decide) (k_goto hK (t := 76) dX8_loop_72 rfl (k_pI hK (q := 79) (M2 := up (up (up M 32 34 0) 32 8 f) 32 9 (-1)) dX8_loop_76 rfl rp_X8_32 rfl rfl rfl ?_))
          have hc0 : cnt = 0 := by omega
          have hs9 : scM (up (up (up M 32 34 0) 32 8 f) 32 9 (-1)) = up (up S 0 2 f) 0 3 (if f = -1 then -1 else g) := by rw [scM_u3, scM_u2, scM_o2 _ _ _ (by decide), hs, if_pos (by omega)]
          refine k_aln hK (q := 80)  dX8_loop_79 rfl (z := 32) rfl ?_
          refine k_iv0 hK (q := 83) dX8_loop_80 rfl rm_X8_108 rfl rfl (Nat.le_of_ble_eq_true rfl) (xm_follow _ (up (up (up M 32 34 0) 32 8 f) 32 9 (-1)) 0 (up (up S 0 2 f) 0 3 (if f = -1 then -1 else g)) hs9 (okSc_loop hS (by omega)) hp ht (by omega) (fun q => absurd q (by omega)) (by simpa [up, hc0] using g14) (by simp only [up_k _ _ _ (show (40 : Nat) ≠ 32 by decide)]; exact g40) (by simp only [up_k _ _ _ (show (41 : Nat) ≠ 32 by decide)]; exact g41)) (fun r9 M5 h9 => ?_)
          obtain ⟨rfl, hM5, f5⟩ := h9
          show K 83 [some (vR 32), some (vI f), some (vI g), some (vI 1)] [] M5
          refine k_iln hK (q := 84)  dX8_loop_83 rfl (z := 1) rfl ?_
          refine k_ir hK dX8_loop_84 rfl ?_
          unfold aLoop
          rw [if_neg (by omega), if_neg (by omega), if_pos (by omega)]
          refine ⟨rfl, ⟨by rw [scM_fr f5 (by decide) (by decide)]; exact hs9, ⟨by rw [f5.2 14 (by decide)]; simpa [up] using g14, by rw [f5.1 40 (by decide) (by decide)]; simp only [up_k _ _ _ (show (40 : Nat) ≠ 32 by decide)]; exact g40, by rw [f5.1 41 (by decide) (by decide)]; simp only [up_k _ _ _ (show (41 : Nat) ≠ 32 by decide)]; exact g41⟩, ⟨by rw [f5.2 15 (by decide)]; simpa [up] using g15, by rw [f5.1 35 (by decide) (by decide)]; simp only [up_k _ _ _ (show (35 : Nat) ≠ 32 by decide)]; exact g35, by rw [f5.1 36 (by decide) (by decide)]; simp only [up_k _ _ _ (show (36 : Nat) ≠ 32 by decide)]; exact g36⟩, by rw [hc0]; exact hM5, ?_⟩, ?_⟩
          · refine AlM_f hL (by rw [f5.2 27 (by decide)]; simp [up]) (by rw [f5.2 33 (by decide)]; simp [up]) ?_ ?_ ?_ ?_
            · rw [f5.1 50 (by decide) (by decide)]; simp only [up_k _ _ _ (show (50 : Nat) ≠ 32 by decide)]
            · rw [f5.1 51 (by decide) (by decide)]; simp only [up_k _ _ _ (show (51 : Nat) ≠ 32 by decide)]
            · rw [f5.1 52 (by decide) (by decide)]; simp only [up_k _ _ _ (show (52 : Nat) ≠ 32 by decide)]
            · rw [f5.1 53 (by decide) (by decide)]; simp only [up_k _ _ _ (show (53 : Nat) ≠ 32 by decide)]
          · intro k hk
            rw [f5.1 k (by omega) (by simp; omega)]
            simp only [up_k _ _ _ (show k ≠ 32 by omega)]
    · refine k_bp hK (q := 47)  dX8_loop_45 rfl (by decide) ?_
      refine k_ir hK dX8_loop_47 rfl ?_
      refine PM_same (c := -3) ?_ hI0
      unfold aLoop
      rw [if_neg (by omega)]
      rw [if_pos (by omega)]
  · refine k_iln hK (q := 11)  dX8_loop_10 rfl (z := f) rfl ?_
    refine k_iflt hK (q := 14) (t := 35) dX8_loop_11 rfl rfl (fun h11 => ?_) (fun h11 => ?_)
    · refine k_bp hK (q := 37)  dX8_loop_35 rfl (by decide) ?_
      refine k_ir hK dX8_loop_37 rfl ?_
      refine PM_same (c := -2) ?_ hI0
      unfold aLoop
      rw [if_pos (by omega)]
    · refine k_iln hK (q := 15)  dX8_loop_14 rfl (z := f) rfl (k_aln hK (q := 16)  dX8_loop_15 rfl (z := 32) rfl (k_gI hK (q := 19) (z := M 32 4) 0 dX8_loop_16 rfl rf_X8_86 rfl rfl rfl rfl ?_))
      refine k_cge hK (q := 22) (t := 35) dX8_loop_19 rfl rfl (fun h19 => ?_) (fun h19 => ?_)
      · refine k_bp hK (q := 37)  dX8_loop_35 rfl (by decide) ?_
        refine k_ir hK dX8_loop_37 rfl ?_
        refine PM_same (c := -2) ?_ hI0
        unfold aLoop
        rw [if_pos (by omega)]
      · refine k_iln hK (q := 23)  dX8_loop_22 rfl (z := g) rfl (k_iln hK (q := 24)  dX8_loop_23 rfl (z := f) rfl ?_)
        refine k_clt hK (q := 27) (t := 35) dX8_loop_24 rfl rfl (fun h24 => ?_) (fun h24 => ?_)
        · refine k_bp hK (q := 37)  dX8_loop_35 rfl (by decide) ?_
          refine k_ir hK dX8_loop_37 rfl ?_
          refine PM_same (c := -2) ?_ hI0
          unfold aLoop
          rw [if_pos (by omega)]
        · refine k_iln hK (q := 28)  dX8_loop_27 rfl (z := g) rfl (k_aln hK (q := 29)  dX8_loop_28 rfl (z := 32) rfl (k_gI hK (q := 32) (z := M 32 4) 0 dX8_loop_29 rfl rf_X8_86 rfl rfl rfl rfl ?_))
          refine k_clt hK (q := 35) (t := 38) dX8_loop_32 rfl rfl (fun h32 => ?_) (fun h32 => ?_)
          · refine k_aln hK (q := 39)  dX8_loop_38 rfl (z := 32) rfl (k_gI hK (q := 42) (z := M 32 14) 0 dX8_loop_39 rfl rf_X8_101 rfl rfl rfl rfl ?_)
            refine k_ifle hK (q := 45) (t := 48) dX8_loop_42 rfl rfl (fun h42 => ?_) (fun h42 => ?_)
            · refine k_aln hK (q := 49)  dX8_loop_48 rfl (z := 32) rfl (k_gI hK (q := 52) (z := M 32 8) 0 dX8_loop_49 rfl rf_X8_28 rfl rfl rfl rfl ?_)
              refine k_iflt hK (q := 55) (t := 59) dX8_loop_52 rfl rfl (fun h52 => ?_) (fun h52 => ?_)
              · refine k_ic hK (q := 60)  dX8_loop_59 rfl (by decide) (k_isn hK (q := 61)  dX8_loop_60 rfl (L2 := [some (vR 32), some (vI f), some (vI g), some (vI 0)]) (Nat.le_of_ble_eq_true rfl) rfl (k_aln hK (q := 62)  dX8_loop_61 rfl (z := 32) rfl (k_iln hK (q := 63)  dX8_loop_62 rfl (z := f) rfl (k_pI hK (q := 66) (M2 := up (up M 32 34 0) 32 8 f) dX8_loop_63 rfl rp_X8_28 rfl rfl rfl (k_aln hK (q := 67)  dX8_loop_66 rfl (z := 32) rfl ?_)))))
                refine k_iln hK (q := 68)  dX8_loop_67 rfl (z := f) rfl ?_
                refine k_ifge hK (q := 71) (t := 75) dX8_loop_68 rfl rfl (fun h68 => ?_) (fun h68 => ?_)
                · refine k_iln hK (q := 76)  dX8_loop_75 rfl (z := g) rfl (k_pI hK (q := 79) (M2 := up (up (up M 32 34 0) 32 8 f) 32 9 g) dX8_loop_76 rfl rp_X8_32 rfl rfl rfl ?_)
                  have hc0 : cnt = 0 := by omega
                  have hs9 : scM (up (up (up M 32 34 0) 32 8 f) 32 9 g) = up (up S 0 2 f) 0 3 (if f = -1 then -1 else g) := by rw [scM_u3, scM_u2, scM_o2 _ _ _ (by decide), hs, if_neg (by omega)]
                  refine k_aln hK (q := 80)  dX8_loop_79 rfl (z := 32) rfl ?_
                  refine k_iv0 hK (q := 83) dX8_loop_80 rfl rm_X8_108 rfl rfl (Nat.le_of_ble_eq_true rfl) (xm_follow _ (up (up (up M 32 34 0) 32 8 f) 32 9 g) 0 (up (up S 0 2 f) 0 3 (if f = -1 then -1 else g)) hs9 (okSc_loop hS (by omega)) hp ht (by omega) (fun q => absurd q (by omega)) (by simpa [up, hc0] using g14) (by simp only [up_k _ _ _ (show (40 : Nat) ≠ 32 by decide)]; exact g40) (by simp only [up_k _ _ _ (show (41 : Nat) ≠ 32 by decide)]; exact g41)) (fun r9 M5 h9 => ?_)
                  obtain ⟨rfl, hM5, f5⟩ := h9
                  show K 83 [some (vR 32), some (vI f), some (vI g), some (vI 0)] [] M5
                  refine k_iln hK (q := 84)  dX8_loop_83 rfl (z := 0) rfl ?_
                  refine k_ir hK dX8_loop_84 rfl ?_
                  unfold aLoop
                  rw [if_neg (by omega), if_neg (by omega), if_neg (by omega)]
                  refine ⟨rfl, ⟨by rw [scM_fr f5 (by decide) (by decide)]; exact hs9, ⟨by rw [f5.2 14 (by decide)]; simpa [up] using g14, by rw [f5.1 40 (by decide) (by decide)]; simp only [up_k _ _ _ (show (40 : Nat) ≠ 32 by decide)]; exact g40, by rw [f5.1 41 (by decide) (by decide)]; simp only [up_k _ _ _ (show (41 : Nat) ≠ 32 by decide)]; exact g41⟩, ⟨by rw [f5.2 15 (by decide)]; simpa [up] using g15, by rw [f5.1 35 (by decide) (by decide)]; simp only [up_k _ _ _ (show (35 : Nat) ≠ 32 by decide)]; exact g35, by rw [f5.1 36 (by decide) (by decide)]; simp only [up_k _ _ _ (show (36 : Nat) ≠ 32 by decide)]; exact g36⟩, by rw [hc0]; exact hM5, ?_⟩, ?_⟩
                  · refine AlM_f hL (by rw [f5.2 27 (by decide)]; simp [up]) (by rw [f5.2 33 (by decide)]; simp [up]) ?_ ?_ ?_ ?_
                    · rw [f5.1 50 (by decide) (by decide)]; simp only [up_k _ _ _ (show (50 : Nat) ≠ 32 by decide)]
                    · rw [f5.1 51 (by decide) (by decide)]; simp only [up_k _ _ _ (show (51 : Nat) ≠ 32 by decide)]
                    · rw [f5.1 52 (by decide) (by decide)]; simp only [up_k _ _ _ (show (52 : Nat) ≠ 32 by decide)]
                    · rw [f5.1 53 (by decide) (by decide)]; simp only [up_k _ _ _ (show (53 : Nat) ≠ 32 by decide)]
                  · intro k hk
                    rw [f5.1 k (by omega) (by simp; omega)]
                    simp only [up_k _ _ _ (show k ≠ 32 by omega)]
                · refine k_ic hK (q := 72)  dX8_loop_71 rfl (by decide) (k_goto hK (t := 76) dX8_loop_72 rfl (k_pI hK (q := 79) (M2 := up (up (up M 32 34 0) 32 8 f) 32 9 (-1)) dX8_loop_76 rfl rp_X8_32 rfl rfl rfl ?_))
                  have hc0 : cnt = 0 := by omega
                  have hs9 : scM (up (up (up M 32 34 0) 32 8 f) 32 9 (-1)) = up (up S 0 2 f) 0 3 (if f = -1 then -1 else g) := by rw [scM_u3, scM_u2, scM_o2 _ _ _ (by decide), hs, if_pos (by omega)]
                  refine k_aln hK (q := 80)  dX8_loop_79 rfl (z := 32) rfl ?_
                  refine k_iv0 hK (q := 83) dX8_loop_80 rfl rm_X8_108 rfl rfl (Nat.le_of_ble_eq_true rfl) (xm_follow _ (up (up (up M 32 34 0) 32 8 f) 32 9 (-1)) 0 (up (up S 0 2 f) 0 3 (if f = -1 then -1 else g)) hs9 (okSc_loop hS (by omega)) hp ht (by omega) (fun q => absurd q (by omega)) (by simpa [up, hc0] using g14) (by simp only [up_k _ _ _ (show (40 : Nat) ≠ 32 by decide)]; exact g40) (by simp only [up_k _ _ _ (show (41 : Nat) ≠ 32 by decide)]; exact g41)) (fun r9 M5 h9 => ?_)
                  obtain ⟨rfl, hM5, f5⟩ := h9
                  show K 83 [some (vR 32), some (vI f), some (vI g), some (vI 0)] [] M5
                  refine k_iln hK (q := 84)  dX8_loop_83 rfl (z := 0) rfl ?_
                  refine k_ir hK dX8_loop_84 rfl ?_
                  unfold aLoop
                  rw [if_neg (by omega), if_neg (by omega), if_neg (by omega)]
                  refine ⟨rfl, ⟨by rw [scM_fr f5 (by decide) (by decide)]; exact hs9, ⟨by rw [f5.2 14 (by decide)]; simpa [up] using g14, by rw [f5.1 40 (by decide) (by decide)]; simp only [up_k _ _ _ (show (40 : Nat) ≠ 32 by decide)]; exact g40, by rw [f5.1 41 (by decide) (by decide)]; simp only [up_k _ _ _ (show (41 : Nat) ≠ 32 by decide)]; exact g41⟩, ⟨by rw [f5.2 15 (by decide)]; simpa [up] using g15, by rw [f5.1 35 (by decide) (by decide)]; simp only [up_k _ _ _ (show (35 : Nat) ≠ 32 by decide)]; exact g35, by rw [f5.1 36 (by decide) (by decide)]; simp only [up_k _ _ _ (show (36 : Nat) ≠ 32 by decide)]; exact g36⟩, by rw [hc0]; exact hM5, ?_⟩, ?_⟩
                  · refine AlM_f hL (by rw [f5.2 27 (by decide)]; simp [up]) (by rw [f5.2 33 (by decide)]; simp [up]) ?_ ?_ ?_ ?_
                    · rw [f5.1 50 (by decide) (by decide)]; simp only [up_k _ _ _ (show (50 : Nat) ≠ 32 by decide)]
                    · rw [f5.1 51 (by decide) (by decide)]; simp only [up_k _ _ _ (show (51 : Nat) ≠ 32 by decide)]
                    · rw [f5.1 52 (by decide) (by decide)]; simp only [up_k _ _ _ (show (52 : Nat) ≠ 32 by decide)]
                    · rw [f5.1 53 (by decide) (by decide)]; simp only [up_k _ _ _ (show (53 : Nat) ≠ 32 by decide)]
                  · intro k hk
                    rw [f5.1 k (by omega) (by simp; omega)]
                    simp only [up_k _ _ _ (show k ≠ 32 by omega)]
              · refine k_ic hK (q := 56)  dX8_loop_55 rfl (by decide) (k_goto hK (t := 60) dX8_loop_56 rfl (k_isn hK (q := 61)  dX8_loop_60 rfl (L2 := [some (vR 32), some (vI f), some (vI g), some (vI 1)]) (Nat.le_of_ble_eq_true rfl) rfl (k_aln hK (q := 62)  dX8_loop_61 rfl (z := 32) rfl (k_iln hK (q := 63)  dX8_loop_62 rfl (z := f) rfl (k_pI hK (q := 66) (M2 := up (up M 32 34 0) 32 8 f) dX8_loop_63 rfl rp_X8_28 rfl rfl rfl ?_)))))
                refine k_aln hK (q := 67)  dX8_loop_66 rfl (z := 32) rfl (k_iln hK (q := 68)  dX8_loop_67 rfl (z := f) rfl ?_)
                refine k_ifge hK (q := 71) (t := 75) dX8_loop_68 rfl rfl (fun h68 => ?_) (fun h68 => ?_)
                · refine k_iln hK (q := 76)  dX8_loop_75 rfl (z := g) rfl (k_pI hK (q := 79) (M2 := up (up (up M 32 34 0) 32 8 f) 32 9 g) dX8_loop_76 rfl rp_X8_32 rfl rfl rfl ?_)
                  have hc0 : cnt = 0 := by omega
                  have hs9 : scM (up (up (up M 32 34 0) 32 8 f) 32 9 g) = up (up S 0 2 f) 0 3 (if f = -1 then -1 else g) := by rw [scM_u3, scM_u2, scM_o2 _ _ _ (by decide), hs, if_neg (by omega)]
                  refine k_aln hK (q := 80)  dX8_loop_79 rfl (z := 32) rfl ?_
                  refine k_iv0 hK (q := 83) dX8_loop_80 rfl rm_X8_108 rfl rfl (Nat.le_of_ble_eq_true rfl) (xm_follow _ (up (up (up M 32 34 0) 32 8 f) 32 9 g) 0 (up (up S 0 2 f) 0 3 (if f = -1 then -1 else g)) hs9 (okSc_loop hS (by omega)) hp ht (by omega) (fun q => absurd q (by omega)) (by simpa [up, hc0] using g14) (by simp only [up_k _ _ _ (show (40 : Nat) ≠ 32 by decide)]; exact g40) (by simp only [up_k _ _ _ (show (41 : Nat) ≠ 32 by decide)]; exact g41)) (fun r9 M5 h9 => ?_)
                  obtain ⟨rfl, hM5, f5⟩ := h9
                  show K 83 [some (vR 32), some (vI f), some (vI g), some (vI 1)] [] M5
                  refine k_iln hK (q := 84)  dX8_loop_83 rfl (z := 1) rfl ?_
                  refine k_ir hK dX8_loop_84 rfl ?_
                  unfold aLoop
                  rw [if_neg (by omega), if_neg (by omega), if_pos (by omega)]
                  refine ⟨rfl, ⟨by rw [scM_fr f5 (by decide) (by decide)]; exact hs9, ⟨by rw [f5.2 14 (by decide)]; simpa [up] using g14, by rw [f5.1 40 (by decide) (by decide)]; simp only [up_k _ _ _ (show (40 : Nat) ≠ 32 by decide)]; exact g40, by rw [f5.1 41 (by decide) (by decide)]; simp only [up_k _ _ _ (show (41 : Nat) ≠ 32 by decide)]; exact g41⟩, ⟨by rw [f5.2 15 (by decide)]; simpa [up] using g15, by rw [f5.1 35 (by decide) (by decide)]; simp only [up_k _ _ _ (show (35 : Nat) ≠ 32 by decide)]; exact g35, by rw [f5.1 36 (by decide) (by decide)]; simp only [up_k _ _ _ (show (36 : Nat) ≠ 32 by decide)]; exact g36⟩, by rw [hc0]; exact hM5, ?_⟩, ?_⟩
                  · refine AlM_f hL (by rw [f5.2 27 (by decide)]; simp [up]) (by rw [f5.2 33 (by decide)]; simp [up]) ?_ ?_ ?_ ?_
                    · rw [f5.1 50 (by decide) (by decide)]; simp only [up_k _ _ _ (show (50 : Nat) ≠ 32 by decide)]
                    · rw [f5.1 51 (by decide) (by decide)]; simp only [up_k _ _ _ (show (51 : Nat) ≠ 32 by decide)]
                    · rw [f5.1 52 (by decide) (by decide)]; simp only [up_k _ _ _ (show (52 : Nat) ≠ 32 by decide)]
                    · rw [f5.1 53 (by decide) (by decide)]; simp only [up_k _ _ _ (show (53 : Nat) ≠ 32 by decide)]
                  · intro k hk
                    rw [f5.1 k (by omega) (by simp; omega)]
                    simp only [up_k _ _ _ (show k ≠ 32 by omega)]
                · refine k_ic hK (q := 72)  dX8_loop_71 rfl (by decide) (k_goto hK (t := 76) dX8_loop_72 rfl (k_pI hK (q := 79) (M2 := up (up (up M 32 34 0) 32 8 f) 32 9 (-1)) dX8_loop_76 rfl rp_X8_32 rfl rfl rfl ?_))
                  have hc0 : cnt = 0 := by omega
                  have hs9 : scM (up (up (up M 32 34 0) 32 8 f) 32 9 (-1)) = up (up S 0 2 f) 0 3 (if f = -1 then -1 else g) := by rw [scM_u3, scM_u2, scM_o2 _ _ _ (by decide), hs, if_pos (by omega)]
                  refine k_aln hK (q := 80)  dX8_loop_79 rfl (z := 32) rfl ?_
                  refine k_iv0 hK (q := 83) dX8_loop_80 rfl rm_X8_108 rfl rfl (Nat.le_of_ble_eq_true rfl) (xm_follow _ (up (up (up M 32 34 0) 32 8 f) 32 9 (-1)) 0 (up (up S 0 2 f) 0 3 (if f = -1 then -1 else g)) hs9 (okSc_loop hS (by omega)) hp ht (by omega) (fun q => absurd q (by omega)) (by simpa [up, hc0] using g14) (by simp only [up_k _ _ _ (show (40 : Nat) ≠ 32 by decide)]; exact g40) (by simp only [up_k _ _ _ (show (41 : Nat) ≠ 32 by decide)]; exact g41)) (fun r9 M5 h9 => ?_)
                  obtain ⟨rfl, hM5, f5⟩ := h9
                  show K 83 [some (vR 32), some (vI f), some (vI g), some (vI 1)] [] M5
                  refine k_iln hK (q := 84)  dX8_loop_83 rfl (z := 1) rfl ?_
                  refine k_ir hK dX8_loop_84 rfl ?_
                  unfold aLoop
                  rw [if_neg (by omega), if_neg (by omega), if_pos (by omega)]
                  refine ⟨rfl, ⟨by rw [scM_fr f5 (by decide) (by decide)]; exact hs9, ⟨by rw [f5.2 14 (by decide)]; simpa [up] using g14, by rw [f5.1 40 (by decide) (by decide)]; simp only [up_k _ _ _ (show (40 : Nat) ≠ 32 by decide)]; exact g40, by rw [f5.1 41 (by decide) (by decide)]; simp only [up_k _ _ _ (show (41 : Nat) ≠ 32 by decide)]; exact g41⟩, ⟨by rw [f5.2 15 (by decide)]; simpa [up] using g15, by rw [f5.1 35 (by decide) (by decide)]; simp only [up_k _ _ _ (show (35 : Nat) ≠ 32 by decide)]; exact g35, by rw [f5.1 36 (by decide) (by decide)]; simp only [up_k _ _ _ (show (36 : Nat) ≠ 32 by decide)]; exact g36⟩, by rw [hc0]; exact hM5, ?_⟩, ?_⟩
                  · refine AlM_f hL (by rw [f5.2 27 (by decide)]; simp [up]) (by rw [f5.2 33 (by decide)]; simp [up]) ?_ ?_ ?_ ?_
                    · rw [f5.1 50 (by decide) (by decide)]; simp only [up_k _ _ _ (show (50 : Nat) ≠ 32 by decide)]
                    · rw [f5.1 51 (by decide) (by decide)]; simp only [up_k _ _ _ (show (51 : Nat) ≠ 32 by decide)]
                    · rw [f5.1 52 (by decide) (by decide)]; simp only [up_k _ _ _ (show (52 : Nat) ≠ 32 by decide)]
                    · rw [f5.1 53 (by decide) (by decide)]; simp only [up_k _ _ _ (show (53 : Nat) ≠ 32 by decide)]
                  · intro k hk
                    rw [f5.1 k (by omega) (by simp; omega)]
                    simp only [up_k _ _ _ (show k ≠ 32 by omega)]
            · refine k_bp hK (q := 47)  dX8_loop_45 rfl (by decide) ?_
              refine k_ir hK dX8_loop_47 rfl ?_
              refine PM_same (c := -3) ?_ hI0
              unfold aLoop
              rw [if_neg (by omega)]
              rw [if_pos (by omega)]
          · refine k_bp hK (q := 37)  dX8_loop_35 rfl (by decide) ?_
            refine k_ir hK dX8_loop_37 rfl ?_
            refine PM_same (c := -2) ?_ hI0
            unfold aLoop
            rw [if_pos (by omega)]

set_option maxRecDepth 20000 in
set_option maxHeartbeats 2000000 in
theorem xm_cost (d t : Nat) (M : ra_M) (S : Sc) (cnt : Int) (hp ht : Int → Int) (ses : Int) (bx du : Int → Int) (al : Al8) (hI : IM S cnt hp ht ses bx du al M) (hw : WF t S cnt hp ht ses bx al) (w v : Int) : Ex d m_X8_cost [vR 32, vI w, vI v] M (PM M (aCost S cnt hp ht ses bx du al w v)) := by
  refine Ex_leaf (Nat.le_of_ble_eq_true rfl) (fun C K hK => ?_)
  show K 0 [some (vR 32), some (vI w), some (vI v), none] [] M
  have hK : ra_Clo _ m_X8_cost cX8_cost _ K := hK
  have hI0 := hI
  obtain ⟨hs, ⟨g14, g40, g41⟩, ⟨g15, g35, g36⟩, hF, hL⟩ := hI
  obtain ⟨hS, hc, hnn, hh, hse, hbx, hal⟩ := hw
  obtain ⟨e5, e6, e7, e8, e9⟩ := scM_e hs
  obtain ⟨a2, a3, a4, a5, a6⟩ := scM_a hs
  have hs0 := hS.1
  have hs1 := hS.2.1
  have hs2 := hS.2.2.1
  refine k_aln hK (q := 1)  dX8_cost_0 rfl (z := 32) rfl (k_ic hK (q := 2)  dX8_cost_1 rfl (by decide) (k_pI hK (q := 5) (M2 := up M 32 34 0) dX8_cost_2 rfl rp_X8_83 rfl rfl rfl (k_iln hK (q := 6)  dX8_cost_5 rfl (z := w) rfl ?_)))
  refine k_iflt hK (q := 9) (t := 40) dX8_cost_6 rfl rfl (fun h6 => ?_) (fun h6 => ?_)
  · refine k_bp hK (q := 42)  dX8_cost_40 rfl (by decide) ?_
    refine k_ir hK dX8_cost_42 rfl ?_
    refine PM_same (c := -2) ?_ hI0
    unfold aCost
    rw [if_pos (by omega)]
  · refine k_iln hK (q := 10)  dX8_cost_9 rfl (z := w) rfl (k_ic hK (q := 11)  dX8_cost_10 rfl (by decide) ?_)
    refine k_cgt hK (q := 14) (t := 40) dX8_cost_11 rfl rfl (fun h11 => ?_) (fun h11 => ?_)
    · refine k_bp hK (q := 42)  dX8_cost_40 rfl (by decide) ?_
      refine k_ir hK dX8_cost_42 rfl ?_
      refine PM_same (c := -2) ?_ hI0
      unfold aCost
      rw [if_pos (by omega)]
    · refine k_iln hK (q := 15)  dX8_cost_14 rfl (z := v) rfl (k_iln hK (q := 16)  dX8_cost_15 rfl (z := w) rfl (k_ic hK (q := 17)  dX8_cost_16 rfl (by decide) ?_))
      refine k_ceq hK (q := 20) (t := 25) dX8_cost_17 rfl rfl (fun h17 => ?_) (fun h17 => ?_)
      · refine k_ic hK (q := 26)  dX8_cost_25 rfl (by decide) (k_goto hK (t := 30) dX8_cost_26 rfl ?_)
        refine k_clt hK (q := 33) (t := 40) dX8_cost_30 rfl rfl (fun h30 => ?_) (fun h30 => ?_)
        · refine k_bp hK (q := 42)  dX8_cost_40 rfl (by decide) ?_
          refine k_ir hK dX8_cost_42 rfl ?_
          refine PM_same (c := -2) ?_ hI0
          unfold aCost
          rw [if_pos (by omega)]
        · refine k_iln hK (q := 34)  dX8_cost_33 rfl (z := v) rfl (k_sp hK (q := 37)  dX8_cost_34 rfl (by decide) ?_)
          refine k_cle hK (q := 40) (t := 43) dX8_cost_37 rfl rfl (fun h37 => ?_) (fun h37 => ?_)
          · refine k_aln hK (q := 44)  dX8_cost_43 rfl (z := 32) rfl (k_gI hK (q := 47) (z := M 32 14) 0 dX8_cost_44 rfl rf_X8_101 rfl rfl rfl rfl ?_)
            refine k_ifle hK (q := 50) (t := 53) dX8_cost_47 rfl rfl (fun h47 => ?_) (fun h47 => ?_)
            · refine k_aln hK (q := 54)  dX8_cost_53 rfl (z := 32) rfl (k_gR hK (q := 57) (r := 39) dX8_cost_54 rfl rf_X8_35 rfl rfl (k_iln hK (q := 58)  dX8_cost_57 rfl (z := w) rfl (k_ald hK (q := 59)  dX8_cost_58 rfl (y := M 39 w) rfl (by omega) rfl (k_isn hK (q := 60)  dX8_cost_59 rfl (L2 := [some (vR 32), some (vI w), some (vI v), some (vI (M 39 w))]) (Nat.le_of_ble_eq_true rfl) rfl (k_aln hK (q := 61)  dX8_cost_60 rfl (z := 32) rfl ?_)))))
              refine k_gR hK (q := 64) (r := 39) dX8_cost_61 rfl rf_X8_35 rfl rfl (k_iln hK (q := 65)  dX8_cost_64 rfl (z := w) rfl (k_iln hK (q := 66)  dX8_cost_65 rfl (z := v) rfl (k_ast hK (q := 67)  dX8_cost_66 rfl rfl (by omega) (k_iln hK (q := 68)  dX8_cost_67 rfl (z := (M 39 w)) rfl ?_))))
              refine k_ir hK dX8_cost_68 rfl ?_
              have hc0 : cnt = 0 := by omega
              unfold aCost
              rw [if_neg (by omega), if_neg (by omega)]
              have fx : ∀ k, k ≠ 32 → k ≠ 39 → (up (up M 32 34 0) 39 w v) k = M k := by intro k b c; first | rw [up_k _ _ _ c, up_k _ _ _ b] | rw [up_k _ _ _ b, up_k _ _ _ b]
              refine ⟨by rw [← a6], ⟨by rw [scM_a5, scM_o2 _ _ _ (by decide), hs], ⟨by simpa [up] using g14, by rw [fx 40 (by decide) (by decide)]; exact g40, by rw [fx 41 (by decide) (by decide)]; exact g41⟩, ⟨by simpa [up] using g15, by rw [fx 35 (by decide) (by decide)]; exact g35, by rw [fx 36 (by decide) (by decide)]; exact g36⟩, ?_, AlM_f hL (by simp [up]) (by simp [up]) (fx 50 (by decide) (by decide)) (fx 51 (by decide) (by decide)) (fx 52 (by decide) (by decide)) (fx 53 (by decide) (by decide))⟩, fun k hk => fx k (by omega) (by omega)⟩
              rw [hc0] at hF ⊢
              exact MF_f (MF_0 hF) (fx 42 (by decide) (by decide)) (by simp [up]) (by simp [up]) (fx 45 (by decide) (by decide)) (fx 46 (by decide) (by decide))
            · refine k_bp hK (q := 52)  dX8_cost_50 rfl (by decide) ?_
              refine k_ir hK dX8_cost_52 rfl ?_
              refine PM_same (c := -3) ?_ hI0
              unfold aCost
              rw [if_neg (by omega)]
              rw [if_pos (by omega)]
          · refine k_bp hK (q := 42)  dX8_cost_40 rfl (by decide) ?_
            refine k_ir hK dX8_cost_42 rfl ?_
            refine PM_same (c := -2) ?_ hI0
            unfold aCost
            rw [if_pos (by omega)]
      · refine k_iln hK (q := 21)  dX8_cost_20 rfl (z := w) rfl (k_ic hK (q := 22)  dX8_cost_21 rfl (by decide) ?_)
        refine k_cne hK (q := 25) (t := 29) dX8_cost_22 rfl rfl (fun h22 => ?_) (fun h22 => ?_)
        · refine k_ic hK (q := 30)  dX8_cost_29 rfl (by decide) ?_
          refine k_clt hK (q := 33) (t := 40) dX8_cost_30 rfl rfl (fun h30 => ?_) (fun h30 => ?_)
          · refine k_bp hK (q := 42)  dX8_cost_40 rfl (by decide) ?_
            refine k_ir hK dX8_cost_42 rfl ?_
            refine PM_same (c := -2) ?_ hI0
            unfold aCost
            rw [if_pos (by omega)]
          · refine k_iln hK (q := 34)  dX8_cost_33 rfl (z := v) rfl (k_sp hK (q := 37)  dX8_cost_34 rfl (by decide) ?_)
            refine k_cle hK (q := 40) (t := 43) dX8_cost_37 rfl rfl (fun h37 => ?_) (fun h37 => ?_)
            · refine k_aln hK (q := 44)  dX8_cost_43 rfl (z := 32) rfl (k_gI hK (q := 47) (z := M 32 14) 0 dX8_cost_44 rfl rf_X8_101 rfl rfl rfl rfl ?_)
              refine k_ifle hK (q := 50) (t := 53) dX8_cost_47 rfl rfl (fun h47 => ?_) (fun h47 => ?_)
              · refine k_aln hK (q := 54)  dX8_cost_53 rfl (z := 32) rfl (k_gR hK (q := 57) (r := 39) dX8_cost_54 rfl rf_X8_35 rfl rfl (k_iln hK (q := 58)  dX8_cost_57 rfl (z := w) rfl (k_ald hK (q := 59)  dX8_cost_58 rfl (y := M 39 w) rfl (by omega) rfl (k_isn hK (q := 60)  dX8_cost_59 rfl (L2 := [some (vR 32), some (vI w), some (vI v), some (vI (M 39 w))]) (Nat.le_of_ble_eq_true rfl) rfl (k_aln hK (q := 61)  dX8_cost_60 rfl (z := 32) rfl ?_)))))
                refine k_gR hK (q := 64) (r := 39) dX8_cost_61 rfl rf_X8_35 rfl rfl (k_iln hK (q := 65)  dX8_cost_64 rfl (z := w) rfl (k_iln hK (q := 66)  dX8_cost_65 rfl (z := v) rfl (k_ast hK (q := 67)  dX8_cost_66 rfl rfl (by omega) (k_iln hK (q := 68)  dX8_cost_67 rfl (z := (M 39 w)) rfl ?_))))
                refine k_ir hK dX8_cost_68 rfl ?_
                have hc0 : cnt = 0 := by omega
                unfold aCost
                rw [if_neg (by omega), if_neg (by omega)]
                have fx : ∀ k, k ≠ 32 → k ≠ 39 → (up (up M 32 34 0) 39 w v) k = M k := by intro k b c; first | rw [up_k _ _ _ c, up_k _ _ _ b] | rw [up_k _ _ _ b, up_k _ _ _ b]
                refine ⟨by rw [← a6], ⟨by rw [scM_a5, scM_o2 _ _ _ (by decide), hs], ⟨by simpa [up] using g14, by rw [fx 40 (by decide) (by decide)]; exact g40, by rw [fx 41 (by decide) (by decide)]; exact g41⟩, ⟨by simpa [up] using g15, by rw [fx 35 (by decide) (by decide)]; exact g35, by rw [fx 36 (by decide) (by decide)]; exact g36⟩, ?_, AlM_f hL (by simp [up]) (by simp [up]) (fx 50 (by decide) (by decide)) (fx 51 (by decide) (by decide)) (fx 52 (by decide) (by decide)) (fx 53 (by decide) (by decide))⟩, fun k hk => fx k (by omega) (by omega)⟩
                rw [hc0] at hF ⊢
                exact MF_f (MF_0 hF) (fx 42 (by decide) (by decide)) (by simp [up]) (by simp [up]) (fx 45 (by decide) (by decide)) (fx 46 (by decide) (by decide))
              · refine k_bp hK (q := 52)  dX8_cost_50 rfl (by decide) ?_
                refine k_ir hK dX8_cost_52 rfl ?_
                refine PM_same (c := -3) ?_ hI0
                unfold aCost
                rw [if_neg (by omega)]
                rw [if_pos (by omega)]
            · refine k_bp hK (q := 42)  dX8_cost_40 rfl (by decide) ?_
              refine k_ir hK dX8_cost_42 rfl ?_
              refine PM_same (c := -2) ?_ hI0
              unfold aCost
              rw [if_pos (by omega)]
        · refine k_ic hK (q := 26)  dX8_cost_25 rfl (by decide) (k_goto hK (t := 30) dX8_cost_26 rfl ?_)
          refine k_clt hK (q := 33) (t := 40) dX8_cost_30 rfl rfl (fun h30 => ?_) (fun h30 => ?_)
          · refine k_bp hK (q := 42)  dX8_cost_40 rfl (by decide) ?_
            refine k_ir hK dX8_cost_42 rfl ?_
            refine PM_same (c := -2) ?_ hI0
            unfold aCost
            rw [if_pos (by omega)]
          · refine k_iln hK (q := 34)  dX8_cost_33 rfl (z := v) rfl (k_sp hK (q := 37)  dX8_cost_34 rfl (by decide) ?_)
            refine k_cle hK (q := 40) (t := 43) dX8_cost_37 rfl rfl (fun h37 => ?_) (fun h37 => ?_)
            · refine k_aln hK (q := 44)  dX8_cost_43 rfl (z := 32) rfl (k_gI hK (q := 47) (z := M 32 14) 0 dX8_cost_44 rfl rf_X8_101 rfl rfl rfl rfl ?_)
              refine k_ifle hK (q := 50) (t := 53) dX8_cost_47 rfl rfl (fun h47 => ?_) (fun h47 => ?_)
              · refine k_aln hK (q := 54)  dX8_cost_53 rfl (z := 32) rfl (k_gR hK (q := 57) (r := 39) dX8_cost_54 rfl rf_X8_35 rfl rfl (k_iln hK (q := 58)  dX8_cost_57 rfl (z := w) rfl (k_ald hK (q := 59)  dX8_cost_58 rfl (y := M 39 w) rfl (by omega) rfl (k_isn hK (q := 60)  dX8_cost_59 rfl (L2 := [some (vR 32), some (vI w), some (vI v), some (vI (M 39 w))]) (Nat.le_of_ble_eq_true rfl) rfl (k_aln hK (q := 61)  dX8_cost_60 rfl (z := 32) rfl ?_)))))
                refine k_gR hK (q := 64) (r := 39) dX8_cost_61 rfl rf_X8_35 rfl rfl (k_iln hK (q := 65)  dX8_cost_64 rfl (z := w) rfl (k_iln hK (q := 66)  dX8_cost_65 rfl (z := v) rfl (k_ast hK (q := 67)  dX8_cost_66 rfl rfl (by omega) (k_iln hK (q := 68)  dX8_cost_67 rfl (z := (M 39 w)) rfl ?_))))
                refine k_ir hK dX8_cost_68 rfl ?_
                have hc0 : cnt = 0 := by omega
                unfold aCost
                rw [if_neg (by omega), if_neg (by omega)]
                have fx : ∀ k, k ≠ 32 → k ≠ 39 → (up (up M 32 34 0) 39 w v) k = M k := by intro k b c; first | rw [up_k _ _ _ c, up_k _ _ _ b] | rw [up_k _ _ _ b, up_k _ _ _ b]
                refine ⟨by rw [← a6], ⟨by rw [scM_a5, scM_o2 _ _ _ (by decide), hs], ⟨by simpa [up] using g14, by rw [fx 40 (by decide) (by decide)]; exact g40, by rw [fx 41 (by decide) (by decide)]; exact g41⟩, ⟨by simpa [up] using g15, by rw [fx 35 (by decide) (by decide)]; exact g35, by rw [fx 36 (by decide) (by decide)]; exact g36⟩, ?_, AlM_f hL (by simp [up]) (by simp [up]) (fx 50 (by decide) (by decide)) (fx 51 (by decide) (by decide)) (fx 52 (by decide) (by decide)) (fx 53 (by decide) (by decide))⟩, fun k hk => fx k (by omega) (by omega)⟩
                rw [hc0] at hF ⊢
                exact MF_f (MF_0 hF) (fx 42 (by decide) (by decide)) (by simp [up]) (by simp [up]) (fx 45 (by decide) (by decide)) (fx 46 (by decide) (by decide))
              · refine k_bp hK (q := 52)  dX8_cost_50 rfl (by decide) ?_
                refine k_ir hK dX8_cost_52 rfl ?_
                refine PM_same (c := -3) ?_ hI0
                unfold aCost
                rw [if_neg (by omega)]
                rw [if_pos (by omega)]
            · refine k_bp hK (q := 42)  dX8_cost_40 rfl (by decide) ?_
              refine k_ir hK dX8_cost_42 rfl ?_
              refine PM_same (c := -2) ?_ hI0
              unfold aCost
              rw [if_pos (by omega)]

set_option maxRecDepth 20000 in
set_option maxHeartbeats 2000000 in
theorem xm_span (d t : Nat) (M : ra_M) (S : Sc) (cnt : Int) (hp ht : Int → Int) (ses : Int) (bx du : Int → Int) (al : Al8) (hI : IM S cnt hp ht ses bx du al M) (hw : WF t S cnt hp ht ses bx al) (s : Int) : Ex d m_X8_span [vR 32, vI s] M (PM M (aSpan S cnt hp ht ses bx du al s)) := by
  refine Ex_leaf (Nat.le_of_ble_eq_true rfl) (fun C K hK => ?_)
  show K 0 [some (vR 32), some (vI s), none] [] M
  have hK : ra_Clo _ m_X8_span cX8_span _ K := hK
  have hI0 := hI
  obtain ⟨hs, ⟨g14, g40, g41⟩, ⟨g15, g35, g36⟩, hF, hL⟩ := hI
  obtain ⟨hS, hc, hnn, hh, hse, hbx, hal⟩ := hw
  obtain ⟨e5, e6, e7, e8, e9⟩ := scM_e hs
  obtain ⟨a2, a3, a4, a5, a6⟩ := scM_a hs
  have hs0 := hS.1
  have hs1 := hS.2.1
  have hs2 := hS.2.2.1
  refine k_aln hK (q := 1)  dX8_span_0 rfl (z := 32) rfl (k_ic hK (q := 2)  dX8_span_1 rfl (by decide) (k_pI hK (q := 5) (M2 := up M 32 34 0) dX8_span_2 rfl rp_X8_83 rfl rfl rfl (k_iln hK (q := 6)  dX8_span_5 rfl (z := s) rfl ?_)))
  refine k_iflt hK (q := 9) (t := 15) dX8_span_6 rfl rfl (fun h6 => ?_) (fun h6 => ?_)
  · refine k_bp hK (q := 17)  dX8_span_15 rfl (by decide) ?_
    refine k_ir hK dX8_span_17 rfl ?_
    refine PM_same (c := -2) ?_ hI0
    unfold aSpan
    rw [if_pos (by omega)]
  · refine k_iln hK (q := 10)  dX8_span_9 rfl (z := s) rfl (k_bp hK (q := 12)  dX8_span_10 rfl (by decide) ?_)
    refine k_cle hK (q := 15) (t := 18) dX8_span_12 rfl rfl (fun h12 => ?_) (fun h12 => ?_)
    · refine k_aln hK (q := 19)  dX8_span_18 rfl (z := 32) rfl (k_gI hK (q := 22) (z := M 32 14) 0 dX8_span_19 rfl rf_X8_101 rfl rfl rfl rfl ?_)
      refine k_ifle hK (q := 25) (t := 28) dX8_span_22 rfl rfl (fun h22 => ?_) (fun h22 => ?_)
      · refine k_aln hK (q := 29)  dX8_span_28 rfl (z := 32) rfl (k_gI hK (q := 32) (z := M 32 11) 0 dX8_span_29 rfl rf_X8_92 rfl rfl rfl rfl (k_isn hK (q := 33)  dX8_span_32 rfl (L2 := [some (vR 32), some (vI s), some (vI (M 32 11))]) (Nat.le_of_ble_eq_true rfl) rfl (k_aln hK (q := 34)  dX8_span_33 rfl (z := 32) rfl (k_iln hK (q := 35)  dX8_span_34 rfl (z := s) rfl (k_pI hK (q := 38) (M2 := up (up M 32 34 0) 32 11 s) dX8_span_35 rfl rp_X8_92 rfl rfl rfl ?_)))))
        refine k_iln hK (q := 39)  dX8_span_38 rfl (z := (M 32 11)) rfl ?_
        refine k_ir hK dX8_span_39 rfl ?_
        have hc0 : cnt = 0 := by omega
        unfold aSpan
        rw [if_neg (by omega), if_neg (by omega)]
        have fx : ∀ k, k ≠ 32 → k ≠ 39 → (up (up M 32 34 0) 32 11 s) k = M k := by intro k b c; first | rw [up_k _ _ _ c, up_k _ _ _ b] | rw [up_k _ _ _ b, up_k _ _ _ b]
        refine ⟨by rw [← e9], ⟨by rw [scM_u4, scM_o2 _ _ _ (by decide), hs], ⟨by simpa [up] using g14, by rw [fx 40 (by decide) (by decide)]; exact g40, by rw [fx 41 (by decide) (by decide)]; exact g41⟩, ⟨by simpa [up] using g15, by rw [fx 35 (by decide) (by decide)]; exact g35, by rw [fx 36 (by decide) (by decide)]; exact g36⟩, ?_, AlM_f hL (by simp [up]) (by simp [up]) (fx 50 (by decide) (by decide)) (fx 51 (by decide) (by decide)) (fx 52 (by decide) (by decide)) (fx 53 (by decide) (by decide))⟩, fun k hk => fx k (by omega) (by omega)⟩
        rw [hc0] at hF ⊢
        exact MF_f (MF_0 hF) (fx 42 (by decide) (by decide)) (by simp [up]) (by simp [up]) (fx 45 (by decide) (by decide)) (fx 46 (by decide) (by decide))
      · refine k_bp hK (q := 27)  dX8_span_25 rfl (by decide) ?_
        refine k_ir hK dX8_span_27 rfl ?_
        refine PM_same (c := -3) ?_ hI0
        unfold aSpan
        rw [if_neg (by omega)]
        rw [if_pos (by omega)]
    · refine k_bp hK (q := 17)  dX8_span_15 rfl (by decide) ?_
      refine k_ir hK dX8_span_17 rfl ?_
      refine PM_same (c := -2) ?_ hI0
      unfold aSpan
      rw [if_pos (by omega)]

set_option maxRecDepth 20000 in
set_option maxHeartbeats 2000000 in
theorem xm_fresh (d : Nat) (M : ra_M) (S : Sc) (hs : scM M = S) (hS : okSc S) (hp ht : Int → Int) (h40 : M 40 = hp) (h41 : M 41 = ht) : Ex (d + 5) m_X8_fresh [vR 32] M (fun r M2 => r = none ∧ MF S hp ht 0 M2 ∧ M2 32 14 = 0 ∧ M2 32 27 = 0 ∧ frM [42, 43, 44, 45, 46, 47, 48] [14, 19, 22, 25, 27] M M2) := by
  refine Ex_call (Nat.le_of_ble_eq_true rfl) (fun K hK => ?_)
  show K 0 [some (vR 32)] [] M
  have hK : ra_Clo _ m_X8_fresh cX8_fresh _ K := hK
  refine k_aln hK (q := 1)  dX8_fresh_0 rfl (z := 32) rfl (k_ic hK (q := 2)  dX8_fresh_1 rfl (by decide) (k_pI hK (q := 5) (M2 := up M 32 14 0) dX8_fresh_2 rfl rp_X8_101 rfl rfl rfl (k_aln hK (q := 6)  dX8_fresh_5 rfl (z := 32) rfl (k_ic hK (q := 7)  dX8_fresh_6 rfl (by decide) (k_pZ hK (q := 10) (M2 := up (up M 32 14 0) 32 27 0) dX8_fresh_7 rfl rp_X8_104 rfl rfl (by decide) rfl ?_)))))
  refine k_aln hK (q := 11)  dX8_fresh_10 rfl (z := 32) rfl ?_
  refine k_iv0 hK (q := 14) dX8_fresh_11 rfl rm_X8_108 rfl rfl (Nat.le_of_ble_eq_true rfl) (xm_follow _ (up (up M 32 14 0) 32 27 0) 0 S (by rw [scM_o2 _ _ _ (by decide), scM_o2 _ _ _ (by decide)]; exact hs) hS hp ht (by omega) (fun q => absurd q (by omega)) (by simp [up]) (by simp only [up_k _ _ _ (show (40 : Nat) ≠ 32 by decide)]; exact h40) (by simp only [up_k _ _ _ (show (41 : Nat) ≠ 32 by decide)]; exact h41)) (fun r9 M5 h9 => ?_)
  obtain ⟨rfl, hM5, f5⟩ := h9
  show K 14 [some (vR 32)] [] M5
  refine k_vr hK dX8_fresh_14 rfl ?_
  exact ⟨rfl, hM5, by rw [f5.2 14 (by decide)]; simp [up], by rw [f5.2 27 (by decide)]; simp [up], frM_trans (frM_fd (frM_fd (frM_refl _ _ _) _ (by decide)) _ (by decide)) (frM_sub f5 (by decide) (by decide))⟩

set_option maxRecDepth 20000 in
set_option maxHeartbeats 2000000 in
theorem xm_begin (d : Nat) (M : ra_M) (hp ht : Int → Int) (h40 : M 40 = hp) (h41 : M 41 = ht) : Ex (d + 6) m_X8_begin [vR 32] M (fun r M2 => r = none ∧ scM M2 = eS (scM M) ∧ MF (eS (scM M)) hp ht 0 M2 ∧ M2 32 14 = 0 ∧ M2 32 27 = 0 ∧ M2 32 15 = 0 ∧ frM [39, 42, 43, 44, 45, 46, 47, 48] [4, 7, 8, 9, 11, 14, 15, 19, 22, 25, 27] M M2) := by
  refine Ex_call (Nat.le_of_ble_eq_true rfl) (fun K hK => ?_)
  show K 0 [some (vR 32)] [] M
  have hK : ra_Clo _ m_X8_begin cX8_begin _ K := hK
  refine k_aln hK (q := 1)  dX8_begin_0 rfl (z := 32) rfl (k_ic hK (q := 2)  dX8_begin_1 rfl (by decide) (k_pI hK (q := 5) (M2 := up M 32 4 0) dX8_begin_2 rfl rp_X8_86 rfl rfl rfl (k_aln hK (q := 6)  dX8_begin_5 rfl (z := 32) rfl (k_ic hK (q := 7)  dX8_begin_6 rfl (by decide) (k_pI hK (q := 10) (M2 := up (up M 32 4 0) 32 7 0) dX8_begin_7 rfl rp_X8_89 rfl rfl rfl ?_)))))
  refine k_aln hK (q := 11)  dX8_begin_10 rfl (z := 32) rfl (k_ic hK (q := 12)  dX8_begin_11 rfl (by decide) (k_pI hK (q := 15) (M2 := up (up (up M 32 4 0) 32 7 0) 32 8 (-1)) dX8_begin_12 rfl rp_X8_28 rfl rfl rfl (k_aln hK (q := 16)  dX8_begin_15 rfl (z := 32) rfl (k_ic hK (q := 17)  dX8_begin_16 rfl (by decide) (k_pI hK (q := 20) (M2 := up (up (up (up M 32 4 0) 32 7 0) 32 8 (-1)) 32 9 (-1)) dX8_begin_17 rfl rp_X8_32 rfl rfl rfl ?_)))))
  refine k_aln hK (q := 21)  dX8_begin_20 rfl (z := 32) rfl (k_gR hK (q := 24) (r := 39) dX8_begin_21 rfl rf_X8_35 rfl rfl (k_ic hK (q := 25)  dX8_begin_24 rfl (by decide) (k_ic hK (q := 26)  dX8_begin_25 rfl (by decide) (k_ast hK (q := 27)  dX8_begin_26 rfl rfl (by omega) (k_aln hK (q := 28)  dX8_begin_27 rfl (z := 32) rfl ?_)))))
  refine k_gR hK (q := 31) (r := 39) dX8_begin_28 rfl rf_X8_35 rfl rfl (k_ic hK (q := 32)  dX8_begin_31 rfl (by decide) (k_ic hK (q := 33)  dX8_begin_32 rfl (by decide) (k_ast hK (q := 34)  dX8_begin_33 rfl rfl (by omega) (k_aln hK (q := 35)  dX8_begin_34 rfl (z := 32) rfl (k_gR hK (q := 38) (r := 39) dX8_begin_35 rfl rf_X8_35 rfl rfl ?_)))))
  refine k_ic hK (q := 39)  dX8_begin_38 rfl (by decide) (k_ic hK (q := 40)  dX8_begin_39 rfl (by decide) (k_ast hK (q := 41)  dX8_begin_40 rfl rfl (by omega) (k_aln hK (q := 42)  dX8_begin_41 rfl (z := 32) rfl (k_gR hK (q := 45) (r := 39) dX8_begin_42 rfl rf_X8_35 rfl rfl (k_ic hK (q := 46)  dX8_begin_45 rfl (by decide) ?_)))))
  refine k_ic hK (q := 47)  dX8_begin_46 rfl (by decide) (k_ast hK (q := 48)  dX8_begin_47 rfl rfl (by omega) (k_aln hK (q := 49)  dX8_begin_48 rfl (z := 32) rfl (k_gR hK (q := 52) (r := 39) dX8_begin_49 rfl rf_X8_35 rfl rfl (k_ic hK (q := 53)  dX8_begin_52 rfl (by decide) (k_bp hK (q := 55)  dX8_begin_53 rfl (by decide) ?_)))))
  refine k_ast hK (q := 56)  dX8_begin_55 rfl rfl (by omega) (k_aln hK (q := 57)  dX8_begin_56 rfl (z := 32) rfl (k_bp hK (q := 59)  dX8_begin_57 rfl (by decide) (k_pI hK (q := 62) (M2 := up (up (up (up (up (up (up (up (up (up M 32 4 0) 32 7 0) 32 8 (-1)) 32 9 (-1)) 39 0 3) 39 1 2) 39 2 2) 39 3 1) 39 4 6) 32 11 8) dX8_begin_59 rfl rp_X8_92 rfl rfl rfl (k_aln hK (q := 63)  dX8_begin_62 rfl (z := 32) rfl (k_ic hK (q := 64)  dX8_begin_63 rfl (by decide) ?_)))))
  refine k_pI hK (q := 67) (M2 := up (up (up (up (up (up (up (up (up (up (up M 32 4 0) 32 7 0) 32 8 (-1)) 32 9 (-1)) 39 0 3) 39 1 2) 39 2 2) 39 3 1) 39 4 6) 32 11 8) 32 15 0) dX8_begin_64 rfl rp_X8_95 rfl rfl rfl ?_
  have hf9 : frM [39, 42, 43, 44, 45, 46, 47, 48] [4, 7, 8, 9, 11, 14, 15, 19, 22, 25, 27] M (up (up (up (up (up (up (up (up (up (up (up M 32 4 0) 32 7 0) 32 8 (-1)) 32 9 (-1)) 39 0 3) 39 1 2) 39 2 2) 39 3 1) 39 4 6) 32 11 8) 32 15 0) := frM_fd (frM_fd (frM_up (frM_up (frM_up (frM_up (frM_up (frM_fd (frM_fd (frM_fd (frM_fd (frM_refl _ _ _) _ (by decide)) _ (by decide)) _ (by decide)) _ (by decide)) _ _ (by decide) (by decide)) _ _ (by decide) (by decide)) _ _ (by decide) (by decide)) _ _ (by decide) (by decide)) _ _ (by decide) (by decide)) _ (by decide)) _ (by decide)
  have hs9 : scM (up (up (up (up (up (up (up (up (up (up (up M 32 4 0) 32 7 0) 32 8 (-1)) 32 9 (-1)) 39 0 3) 39 1 2) 39 2 2) 39 3 1) 39 4 6) 32 11 8) 32 15 0) = eS (scM M) := by
    funext k j
    rcases k with _ | _ | _ | _ | _ | _ | k
    · by_cases j0 : j = 0
      · simp [scM, eS, up, j0]
      by_cases j1 : j = 1
      · simp [scM, eS, up, j1]
      by_cases j2 : j = 2
      · simp [scM, eS, up, j2]
      by_cases j3 : j = 3
      · simp [scM, eS, up, j3]
      by_cases j4 : j = 4
      · simp [scM, eS, up, j4]
      simp [scM, eS, j0, j1, j2, j3, j4]
    · simp [scM, eS, up]
    · simp [scM, eS, up]
    · simp [scM, eS, up]
    · simp [scM, eS, up]
    · by_cases j0 : j = 0
      · simp [scM, eS, up, j0, ra_fc]
      by_cases j1 : j = 1
      · simp [scM, eS, up, j1, ra_fc]
      by_cases j2 : j = 2
      · simp [scM, eS, up, j2, ra_fc]
      by_cases j3 : j = 3
      · simp [scM, eS, up, j3, ra_fc]
      by_cases j4 : j = 4
      · simp [scM, eS, up, j4, ra_fc]
      have hj : ¬ (0 ≤ j ∧ j < 5) := by omega
      simp [scM, eS, up, j0, j1, j2, j3, j4, hj]
    · simp [scM, eS, up]
  refine k_aln hK (q := 68)  dX8_begin_67 rfl (z := 32) rfl ?_
  refine k_iv0 hK (q := 71) dX8_begin_68 rfl rm_X8_98 rfl rfl (Nat.le_of_ble_eq_true rfl) (xm_fresh _ (up (up (up (up (up (up (up (up (up (up (up M 32 4 0) 32 7 0) 32 8 (-1)) 32 9 (-1)) 39 0 3) 39 1 2) 39 2 2) 39 3 1) 39 4 6) 32 11 8) 32 15 0) (eS (scM M)) hs9 (okSc_eS _) hp ht (by simp only [up_k _ _ _ (show (40 : Nat) ≠ 32 by decide), up_k _ _ _ (show (40 : Nat) ≠ 39 by decide)]; exact h40) (by simp only [up_k _ _ _ (show (41 : Nat) ≠ 32 by decide), up_k _ _ _ (show (41 : Nat) ≠ 39 by decide)]; exact h41)) (fun r9 M5 h9 => ?_)
  obtain ⟨rfl, hM5, h14, h27, f5⟩ := h9
  show K 71 [some (vR 32)] [] M5
  refine k_vr hK dX8_begin_71 rfl ?_
  have f6 : frM [39, 42, 43, 44, 45, 46, 47, 48] [4, 7, 8, 9, 11, 14, 15, 19, 22, 25, 27] M M5 := frM_trans hf9 (frM_sub f5 (by decide) (by decide))
  exact ⟨rfl, by rw [scM_fr f5 (by decide) (by decide)]; exact hs9, hM5, h14, h27, by rw [f5.2 15 (by decide), up_same], f6⟩

set_option maxRecDepth 20000 in
set_option maxHeartbeats 2000000 in
theorem xm_clear (d t : Nat) (M : ra_M) (S : Sc) (cnt : Int) (hp ht : Int → Int) (ses : Int) (bx du : Int → Int) (al : Al8) (hI : IM S cnt hp ht ses bx du al M) (hw : WF t S cnt hp ht ses bx al) : Ex (d + 7) m_X8_clear [vR 32] M (fun r M2 => r = none ∧ IM (eS S) 0 hp ht 0 bx du none M2 ∧ moF M M2) := by
  refine Ex_call (Nat.le_of_ble_eq_true rfl) (fun K hK => ?_)
  show K 0 [some (vR 32)] [] M
  have hK : ra_Clo _ m_X8_clear cX8_clear _ K := hK
  have hI0 := hI
  obtain ⟨hs, ⟨g14, g40, g41⟩, ⟨g15, g35, g36⟩, hF, hL⟩ := hI
  obtain ⟨hS, hc, hnn, hh, hse, hbx, hal⟩ := hw
  obtain ⟨e5, e6, e7, e8, e9⟩ := scM_e hs
  obtain ⟨a2, a3, a4, a5, a6⟩ := scM_a hs
  have hs0 := hS.1
  have hs1 := hS.2.1
  have hs2 := hS.2.2.1
  refine k_aln hK (q := 1)  dX8_clear_0 rfl (z := 32) rfl (k_ic hK (q := 2)  dX8_clear_1 rfl (by decide) (k_pI hK (q := 5) (M2 := up M 32 34 0) dX8_clear_2 rfl rp_X8_83 rfl rfl rfl (k_aln hK (q := 6)  dX8_clear_5 rfl (z := 32) rfl ?_)))
  refine k_iv0 hK (q := 9) dX8_clear_6 rfl rm_X8_80 rfl rfl (Nat.le_of_ble_eq_true rfl) (xm_begin _ (up M 32 34 0) hp ht (by simp only [up_k _ _ _ (show (40 : Nat) ≠ 32 by decide)]; exact g40) (by simp only [up_k _ _ _ (show (41 : Nat) ≠ 32 by decide)]; exact g41)) (fun r9 M5 h9 => ?_)
  obtain ⟨rfl, hs5, hM5, h14, h27, h15, f5⟩ := h9
  rw [scM_o2 _ _ _ (by decide), hs] at hs5 hM5
  show K 9 [some (vR 32)] [] M5
  refine k_vr hK dX8_clear_9 rfl ?_
  refine ⟨rfl, ⟨hs5, ⟨h14, by rw [f5.1 40 (by decide) (by decide)]; simp only [up_k _ _ _ (show (40 : Nat) ≠ 32 by decide)]; exact g40, by rw [f5.1 41 (by decide) (by decide)]; simp only [up_k _ _ _ (show (41 : Nat) ≠ 32 by decide)]; exact g41⟩, ⟨h15, by rw [f5.1 35 (by decide) (by decide)]; simp only [up_k _ _ _ (show (35 : Nat) ≠ 32 by decide)]; exact g35, by rw [f5.1 36 (by decide) (by decide)]; simp only [up_k _ _ _ (show (36 : Nat) ≠ 32 by decide)]; exact g36⟩, hM5, h27⟩, fun k hk => ?_⟩
  rw [f5.1 k (by omega) (by simp; omega), up_k _ _ _ (by omega)]
