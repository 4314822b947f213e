/-! the reference passes notes -/
def eq61 (f g : Int → Int) : Prop := ∀ j, 0 ≤ j → j ≤ 60 → f j = g j
theorem rnd_app (A B : List Eg) (c : Int → Int) : rnd (A ++ B) c = rnd B (rnd A c) := by
  unfold rnd
  rw [List.foldl_append]
theorem rnd_stuck {p : Int} : ∀ (G : List Eg) (c : Int → Int), (∀ e ∈ G, e.1 = p ∧ 0 ≤ e.2.2) → (∀ j, c j ≤ NV) → NV ≤ c (p + 1) → rnd G c = c := by
  intro G
  induction G with
  | nil => intro c _ _ _; rfl
  | cons e G ih =>
    intro c h h1 h2
    have he := h e (by simp)
    have hl : lo1 c e = c := by
      unfold lo1
      rw [if_neg (by rw [he.1]; have := h1 (e.2.1 + 1); omega)]
    show rnd G (lo1 c e) = c
    rw [hl]
    exact ih c (fun e he => h e (by simp [he])) h1 h2
/-- the STEPS by which place p is left, passing -/
def Gp (S : Sc) (p : Int) : List Eg := ((nx S p).map (fun q => (p, q.1, q.2))).map (sk1 S)
theorem Gp_len (S : Sc) (p : Int) : (Gp S p).length = (nx S p).length := by simp [Gp]
theorem Gp_get {S : Sc} {p : Int} {i : Nat} {y w : Int} (h : (nx S p)[i]? = some (y, w)) : (Gp S p)[i]? = some (p, y, w + S 5 2) := by
  unfold Gp
  rw [List.getElem?_map, List.getElem?_map, h]
  rfl
theorem Ev_map (S : Sc) (n : Nat) : (Ev S (n + 1)).map (sk1 S) = (Ev S n).map (sk1 S) ++ Gp S ((n : Int) - 1) := by
  simp only [Ev, List.map_append]
  rfl
theorem eq_lo1 {f g : Int → Int} (h : eq61 f g) {p y w s : Int} (hx : s = g (p + 1) + w) (hlt : s < g (y + 1)) : eq61 (fU f (y + 1) s) (lo1 g (p, y, w)) := by
  intro j a b
  have h1 : lo1 g (p, y, w) = fun j => if j = y + 1 then g (p + 1) + w else g j := if_pos (by simp only; omega)
  rw [h1]
  unfold fU
  simp only
  split
  · exact hx
  · exact h j a b
/-- whether a round has lowered something -/
def flg (z : Int) (E : List Eg) (c : Int → Int) : Prop := (z = 0 ∧ rnd E c = c) ∨ (z = 1 ∧ ∃ j, rnd E c j < c j)
theorem flg_more {z : Int} {E G : List Eg} {c : Int → Int} (h : flg z E c) (hs : rnd G (rnd E c) = rnd E c) : flg z (E ++ G) c := by
  unfold flg at *
  rw [rnd_app, hs]
  exact h
theorem flg_low {z : Int} {E G : List Eg} {c : Int → Int} {j : Int} (h : flg z E c) (hs : rnd G (rnd E c) j < rnd E c j) : flg 1 (E ++ G) c := by
  unfold flg
  rw [rnd_app]
  right
  refine ⟨rfl, j, ?_⟩
  have := rnd_le E c j
  omega
theorem flg_01 {z : Int} {E : List Eg} {c : Int → Int} (h : flg z E c) : z = 0 ∨ z = 1 := by
  rcases h with h | h
  · exact Or.inl h.1
  · exact Or.inr h.1

set_option maxRecDepth 20000 in
set_option maxHeartbeats 2000000 in
theorem pass_in {d : Nat} {Q : Option ra_V → ra_M → Prop} {K : Nat → ra_L → List ra_V → ra_M → Prop} (hK : ra_Clo (Ex d) m_X8_pass cX8_pass Q K) {S : Sc} (hS : okSc S) {M0 : ra_M} {p : Int} (hp : -1 ≤ p ∧ p < S 0 0) {F : List Eg} {c : Int → Int} {B : Int} (hFE : ∀ e ∈ F, -1 ≤ e.1 ∧ thr S e.2.1 ∧ 0 ≤ e.2.2 ∧ e.2.2 ≤ 2000) (hdd : dd S B c)
    (hX : ∀ (M : ra_M) (z : Int), eq61 (M 43) (rnd (F ++ Gp S p) c) → flg z (F ++ Gp S p) c → scM M = S → frM [43, 47, 48] [25] M0 M → ∀ i, K 137 [some (vR 32), some (vI z), some (vI p), some (vI i), none] [] M) :
    ∀ (n i : Nat) (M : ra_M) (z : Int), i + n = (nx S p).length → scM M = S → NxM M (nx S p) → eq61 (M 43) (rnd (F ++ (Gp S p).take i) c) → flg z (F ++ (Gp S p).take i) c → frM [43, 47, 48] [25] M0 M → K 51 [some (vR 32), some (vI z), some (vI p), some (vI (i : Nat)), none] [] M := by
  have hNV : NV = 1000000000 := rfl
  have hs0 := hS.1
  have hnl := nx_len hS p
  have hGe : ∀ e ∈ Gp S p, e.1 = p ∧ 0 ≤ e.2.2 := by
    intro e he
    obtain ⟨f, hf, rfl⟩ := List.mem_map.mp he
    obtain ⟨q, hq, rfl⟩ := List.mem_map.mp hf
    have h1 := nx_mem hS hq
    have h2 := hS.2.2.2.2.2.2.2.2.2
    exact ⟨rfl, by simp only [sk1]; omega⟩
  have hGo : ∀ e ∈ Gp S p, -1 ≤ e.1 ∧ thr S e.2.1 ∧ 0 ≤ e.2.2 ∧ e.2.2 ≤ 2000 := by
    intro e he
    obtain ⟨f, hf, rfl⟩ := List.mem_map.mp he
    obtain ⟨q, hq, rfl⟩ := List.mem_map.mp hf
    have h1 := nx_mem hS hq
    have h2 := hS.2.2.2.2.2.2.2.2.2
    have h3 := hS.2.2.2.2.2.2.2.1 2 (by omega) (by omega)
    exact ⟨by simp only [sk1]; omega, h1.1, by simp only [sk1]; omega, by simp only [sk1]; omega⟩
  intro n
  induction n with
  | zero =>
    intro i M z hi hs hn hfe hfl hf
    have en := hn.1
    refine k_iln hK (q := 52)  dX8_pass_51 rfl (z := (i : Nat)) rfl (k_aln hK (q := 53)  dX8_pass_52 rfl (z := 32) rfl (k_gI hK (q := 56) (z := M 32 25) 0 dX8_pass_53 rfl rf_X8_112 rfl rfl rfl rfl ?_))
    refine k_cge hK (q := 59) (t := 137) dX8_pass_56 rfl rfl (fun h56 => ?_) (fun h56 => ?_)
    · have htk : (Gp S p).take i = Gp S p := List.take_of_length_le (by rw [Gp_len]; omega)
      rw [htk] at hfe hfl
      exact hX M z hfe hfl hs hf _
    · exact absurd h56 (by omega)
  | succ n ih =>
    intro i M z hi hs hn hfe hfl hf
    have en := hn.1
    obtain ⟨a2, a3, a4, a5, a6⟩ := scM_a hs
    have hc2 := hS.2.2.2.2.2.2.2.1 2 (by omega) (by omega)
    obtain ⟨⟨y, w⟩, he⟩ : ∃ q, (nx S p)[i]? = some q := ⟨_, List.getElem?_eq_getElem (by omega)⟩
    obtain ⟨g47, g48⟩ := hn.2 i _ he
    have hm := nx_mem hS (List.mem_of_getElem? he)
    simp only at g47 g48 hm
    have hy := thr_lt hS hm.1
    have hcb := (dd_rnd (F ++ (Gp S p).take i) B c (fun e he => by rcases List.mem_append.mp he with h | h; exact hFE e h; exact hGo e (List.mem_of_mem_take h)) hdd).1
    have hcx : M 43 (p + 1) = (rnd (F ++ (Gp S p).take i) c) (p + 1) := hfe (p + 1) (by omega) (by omega)
    have hcy : M 43 (y + 1) = (rnd (F ++ (Gp S p).take i) c) (y + 1) := hfe (y + 1) (by omega) (by omega)
    have hx1 := hcb (p + 1)
    have hy1 := hcb (y + 1)
    rw [← hcx] at hx1
    rw [← hcy] at hy1
    have e2 : M 39 2 = S 5 2 := by rw [a6]
    have hGt : (Gp S p).take (i + 1) = (Gp S p).take i ++ [(p, y, w + S 5 2)] := by rw [List.take_succ, Gp_get he]; rfl
    have hstep : rnd (F ++ (Gp S p).take (i + 1)) c = lo1 (rnd (F ++ (Gp S p).take i) c) (p, y, w + S 5 2) := by
      rw [hGt, ← List.append_assoc, rnd_app]
      rfl
    have hlo1 : ∀ g : Int → Int, rnd [(p, y, w + S 5 2)] g = lo1 g (p, y, w + S 5 2) := fun _ => rfl
    refine k_iln hK (q := 52)  dX8_pass_51 rfl (z := (i : Nat)) rfl (k_aln hK (q := 53)  dX8_pass_52 rfl (z := 32) rfl (k_gI hK (q := 56) (z := M 32 25) 0 dX8_pass_53 rfl rf_X8_112 rfl rfl rfl rfl ?_))
    refine k_cge hK (q := 59) (t := 137) dX8_pass_56 rfl rfl (fun h56 => ?_) (fun h56 => ?_)
    · exact absurd h56 (by omega)
    · refine k_aln hK (q := 60)  dX8_pass_59 rfl (z := 32) rfl (k_gR hK (q := 63) (r := 43) dX8_pass_60 rfl rf_X8_47 rfl rfl (k_iln hK (q := 64)  dX8_pass_63 rfl (z := p) rfl (k_ic hK (q := 65)  dX8_pass_64 rfl (by decide) (k_add hK (q := 66)  dX8_pass_65 rfl (z := p + 1) rfl (by omega) (k_ald hK (q := 67)  dX8_pass_66 rfl (y := M 43 (p + 1)) rfl (by omega) rfl ?_)))))
      refine k_ldc hK (q := 69)  dX8_pass_67 rfl rc_X8_123 ?_
      refine k_cge hK (q := 72) (t := 137) dX8_pass_69 rfl rfl (fun h69 => ?_) (fun h69 => ?_)
      · have hst : rnd ((Gp S p).drop i) (rnd (F ++ (Gp S p).take i) c) = rnd (F ++ (Gp S p).take i) c := rnd_stuck _ _ (fun e he => hGe e (List.mem_of_mem_drop he)) (fun j => (hcb j).2) (by rw [← hcx]; exact h69)
        have hfl2 := flg_more hfl hst
        have hfe2 := hfe
        rw [← hst, ← rnd_app] at hfe2
        rw [List.append_assoc, List.take_append_drop] at hfl2 hfe2
        exact hX M z hfe2 hfl2 hs hf _
      · refine k_aln hK (q := 73)  dX8_pass_72 rfl (z := 32) rfl (k_gR hK (q := 76) (r := 43) dX8_pass_73 rfl rf_X8_47 rfl rfl (k_iln hK (q := 77)  dX8_pass_76 rfl (z := p) rfl (k_ic hK (q := 78)  dX8_pass_77 rfl (by decide) (k_add hK (q := 79)  dX8_pass_78 rfl (z := p + 1) rfl (by omega) (k_ald hK (q := 80)  dX8_pass_79 rfl (y := M 43 (p + 1)) rfl (by omega) rfl ?_)))))
        refine k_aln hK (q := 81)  dX8_pass_80 rfl (z := 32) rfl (k_gR hK (q := 84) (r := 48) dX8_pass_81 rfl rf_X8_62 rfl rfl (k_iln hK (q := 85)  dX8_pass_84 rfl (z := (i : Nat)) rfl (k_ald hK (q := 86)  dX8_pass_85 rfl (y := M 48 (i : Nat)) rfl (by omega) rfl ?_)))
        rw [g48]
        refine k_add hK (q := 87)  dX8_pass_86 rfl (z := (M 43 (p + 1)) + w) rfl (by omega) (k_aln hK (q := 88)  dX8_pass_87 rfl (z := 32) rfl (k_gR hK (q := 91) (r := 39) dX8_pass_88 rfl rf_X8_35 rfl rfl (k_ic hK (q := 92)  dX8_pass_91 rfl (by decide) (k_ald hK (q := 93)  dX8_pass_92 rfl (y := M 39 2) rfl (by omega) rfl (k_add hK (q := 94)  dX8_pass_93 rfl (z := ((M 43 (p + 1)) + w) + (M 39 2)) rfl (by omega) ?_)))))
        refine k_is hK (q := 96)  dX8_pass_94 rfl (L2 := [some (vR 32), some (vI z), some (vI p), some (vI (i : Nat)), some (vI (((M 43 (p + 1)) + w) + (M 39 2)))]) (Nat.le_of_ble_eq_true rfl) rfl (k_il hK (q := 98)  dX8_pass_96 rfl (z := (((M 43 (p + 1)) + w) + (M 39 2))) rfl (k_aln hK (q := 99)  dX8_pass_98 rfl (z := 32) rfl (k_gR hK (q := 102) (r := 43) dX8_pass_99 rfl rf_X8_47 rfl rfl (k_aln hK (q := 103)  dX8_pass_102 rfl (z := 32) rfl (k_gR hK (q := 106) (r := 47) dX8_pass_103 rfl rf_X8_59 rfl rfl ?_)))))
        refine k_iln hK (q := 107)  dX8_pass_106 rfl (z := (i : Nat)) rfl (k_ald hK (q := 108)  dX8_pass_107 rfl (y := M 47 (i : Nat)) rfl (by omega) rfl ?_)
        rw [g47]
        refine k_ic hK (q := 109)  dX8_pass_108 rfl (by decide) (k_add hK (q := 110)  dX8_pass_109 rfl (z := y + 1) rfl (by omega) (k_ald hK (q := 111)  dX8_pass_110 rfl (y := M 43 (y + 1)) rfl (by omega) rfl ?_))
        refine k_cge hK (q := 114) (t := 131) dX8_pass_111 rfl rfl (fun h111 => ?_) (fun h111 => ?_)
        · have hlo : rnd [(p, y, w + S 5 2)] (rnd (F ++ (Gp S p).take i) c) = rnd (F ++ (Gp S p).take i) c := by show lo1 _ _ = _; unfold lo1; simp only; rw [if_neg (by rw [← hcx, ← hcy]; omega)]
          refine k_inc hK (q := 134)  dX8_pass_131 rfl (y := (i : Nat) + 1) (L2 := [some (vR 32), some (vI z), some (vI p), some (vI ((i : Nat) + 1)), some (vI (((M 43 (p + 1)) + w) + (M 39 2)))]) rfl rfl (by omega) rfl (k_goto hK (t := 51) dX8_pass_134 rfl ?_)
          refine k_weak hK (L2 := [some (vR 32), some (vI z), some (vI p), some (vI ((i : Nat) + 1)), none]) ⟨Or.inl rfl, Or.inl rfl, Or.inl rfl, Or.inl rfl, Or.inr rfl, trivial⟩ ?_
          refine ih (i + 1) M z (by omega) hs hn ?_ ?_ hf
          · rw [hstep, ← hlo1, hlo]
            exact hfe
          · have := flg_more (G := [(p, y, w + S 5 2)]) hfl hlo
            rw [List.append_assoc, ← hGt] at this
            exact this
        · refine k_aln hK (q := 115)  dX8_pass_114 rfl (z := 32) rfl (k_gR hK (q := 118) (r := 43) dX8_pass_115 rfl rf_X8_47 rfl rfl (k_aln hK (q := 119)  dX8_pass_118 rfl (z := 32) rfl (k_gR hK (q := 122) (r := 47) dX8_pass_119 rfl rf_X8_59 rfl rfl (k_iln hK (q := 123)  dX8_pass_122 rfl (z := (i : Nat)) rfl (k_ald hK (q := 124)  dX8_pass_123 rfl (y := M 47 (i : Nat)) rfl (by omega) rfl ?_)))))
          rw [g47]
          refine k_ic hK (q := 125)  dX8_pass_124 rfl (by decide) (k_add hK (q := 126)  dX8_pass_125 rfl (z := y + 1) rfl (by omega) (k_il hK (q := 128)  dX8_pass_126 rfl (z := (((M 43 (p + 1)) + w) + (M 39 2))) rfl (k_ast hK (q := 129)  dX8_pass_128 rfl rfl (by omega) (k_ic hK (q := 130)  dX8_pass_129 rfl (by decide) (k_isn hK (q := 131)  dX8_pass_130 rfl (L2 := [some (vR 32), some (vI 1), some (vI p), some (vI (i : Nat)), some (vI (((M 43 (p + 1)) + w) + (M 39 2)))]) (Nat.le_of_ble_eq_true rfl) rfl ?_)))))
          refine k_inc hK (q := 134)  dX8_pass_131 rfl (y := (i : Nat) + 1) (L2 := [some (vR 32), some (vI 1), some (vI p), some (vI ((i : Nat) + 1)), some (vI (((M 43 (p + 1)) + w) + (M 39 2)))]) rfl rfl (by omega) rfl (k_goto hK (t := 51) dX8_pass_134 rfl ?_)
          refine k_weak hK (L2 := [some (vR 32), some (vI 1), some (vI p), some (vI ((i : Nat) + 1)), none]) ⟨Or.inl rfl, Or.inl rfl, Or.inl rfl, Or.inl rfl, Or.inr rfl, trivial⟩ ?_
          refine ih (i + 1) _ 1 (by omega) (by rw [scM_fr (M := M) (frM_up (frM_refl [43] [] _) _ _ (by decide) (by decide)) (by decide) (by decide)]; exact hs) (NxM_f hn (by rw [up_k _ _ _ (by decide)]) (up_k _ _ _ (by decide)) (up_k _ _ _ (by decide))) ?_ ?_ (frM_up hf _ _ (by decide) (by decide))
          · rw [hstep, up_fU]
            exact eq_lo1 hfe (by rw [← hcx]; omega) (by rw [← hcy]; omega)
          · have := flg_low (G := [(p, y, w + S 5 2)]) (j := y + 1) hfl (by show lo1 _ _ _ < _; unfold lo1; simp only; rw [if_pos (by rw [← hcx, ← hcy]; omega), if_pos rfl, ← hcx, ← hcy]; omega)
            rw [List.append_assoc, ← hGt] at this
            exact this

theorem Ev_mono {S : Sc} {n m : Nat} (h : n ≤ m) : ∀ e ∈ Ev S n, e ∈ Ev S m := by
  intro e he
  induction h with
  | refl => exact he
  | step _ ih => simp only [Ev]; exact List.mem_append.mpr (Or.inl ih)
theorem Ev_Ew {S : Sc} {n : Nat} (h : n ≤ (S 0 0).toNat + 1) : ∀ e ∈ Ev S n, e ∈ Ew S := Ev_mono h

set_option maxRecDepth 20000 in
set_option maxHeartbeats 2000000 in
theorem pass_out {d : Nat} {Q : Option ra_V → ra_M → Prop} {K : Nat → ra_L → List ra_V → ra_M → Prop} (hK : ra_Clo (Ex (d + 1)) m_X8_pass cX8_pass Q K) {S : Sc} (hS : okSc S) {M0 : ra_M} {c : Int → Int} {B : Int} (hdd : dd S B c)
    (hX : ∀ (M : ra_M) (z : Int), eq61 (M 43) (rnd ((Ew S).map (sk1 S)) c) → flg z ((Ew S).map (sk1 S)) c → scM M = S → frM [43, 47, 48] [25] M0 M → K 28 [some (vR 32), some (vI z), none, none, none] [] M) :
    ∀ (m n : Nat) (M : ra_M) (z : Int), n + m = (S 0 0).toNat + 1 → scM M = S → eq61 (M 43) (rnd ((Ev S n).map (sk1 S)) c) → flg z ((Ev S n).map (sk1 S)) c → frM [43, 47, 48] [25] M0 M → K 36 [some (vR 32), some (vI z), some (vI (((n : Nat) : Int) - 1)), none, none] [] M := by
  have hs0 := hS.1
  intro m
  induction m with
  | zero =>
    intro n M z hn hs hfe hfl hf
    obtain ⟨e5, e6, e7, e8, e9⟩ := scM_e hs
    refine k_iln hK (q := 37)  dX8_pass_36 rfl (z := (((n : Nat) : Int) - 1)) rfl (k_aln hK (q := 38)  dX8_pass_37 rfl (z := 32) rfl (k_gI hK (q := 41) (z := M 32 4) 0 dX8_pass_38 rfl rf_X8_86 rfl rfl rfl rfl ?_))
    refine k_cge hK (q := 44) (t := 143) dX8_pass_41 rfl rfl (fun h41 => ?_) (fun h41 => ?_)
    · refine k_goto hK (t := 28) dX8_pass_143 rfl ?_
      refine k_weak hK (L2 := [some (vR 32), some (vI z), none, none, none]) ⟨Or.inl rfl, Or.inl rfl, Or.inr rfl, Or.inl rfl, Or.inl rfl, trivial⟩ ?_
      have hn2 : n = (S 0 0).toNat + 1 := by omega
      subst hn2
      exact hX M z hfe hfl hs hf
    · exact absurd h41 (by omega)
  | succ m ih =>
    intro n M z hn hs hfe hfl hf
    obtain ⟨e5, e6, e7, e8, e9⟩ := scM_e hs
    refine k_iln hK (q := 37)  dX8_pass_36 rfl (z := (((n : Nat) : Int) - 1)) rfl (k_aln hK (q := 38)  dX8_pass_37 rfl (z := 32) rfl (k_gI hK (q := 41) (z := M 32 4) 0 dX8_pass_38 rfl rf_X8_86 rfl rfl rfl rfl ?_))
    refine k_cge hK (q := 44) (t := 143) dX8_pass_41 rfl rfl (fun h41 => ?_) (fun h41 => ?_)
    · exact absurd h41 (by omega)
    · refine k_aln hK (q := 45)  dX8_pass_44 rfl (z := 32) rfl (k_iln hK (q := 46)  dX8_pass_45 rfl (z := (((n : Nat) : Int) - 1)) rfl ?_)
      refine k_iv1 hK (q := 49) dX8_pass_46 rfl rm_X8_146 rfl rfl (Nat.le_of_ble_eq_true rfl) (xm_nextsOf _ M (((n : Nat) : Int) - 1) S hs hS (by omega)) (fun r9 M5 h9 => ?_)
      obtain ⟨rfl, hn5, hf5⟩ := h9
      have q43 : M5 43 = M 43 := hf5.1 43 (by decide) (by decide)
      show K 49 [some (vR 32), some (vI z), some (vI (((n : Nat) : Int) - 1)), none, none] [] M5
      refine k_ic hK (q := 50)  dX8_pass_49 rfl (by decide) (k_isn hK (q := 51)  dX8_pass_50 rfl (L2 := [some (vR 32), some (vI z), some (vI (((n : Nat) : Int) - 1)), some (vI 0), none]) (Nat.le_of_ble_eq_true rfl) rfl ?_)
      refine pass_in hK hS (M0 := M0) (p := ((n : Nat) : Int) - 1) (by omega) (F := (Ev S n).map (sk1 S)) (B := B) (sk_ok hS (fun e he => Ev_Ew (by omega) e he)) hdd (fun M6 z2 hfe6 hfl6 hs6 hf6 i2 => ?_) (nx S (((n : Nat) : Int) - 1)).length 0 M5 z (by omega) (by rw [scM_fr hf5 (by decide) (by decide)]; exact hs) hn5 ?_ ?_ (frM_trans hf (frM_sub hf5 (by decide) (by decide)))
      · skip
        refine k_inc hK (q := 140)  dX8_pass_137 rfl (y := (((n : Nat) : Int) - 1) + 1) (L2 := [some (vR 32), some (vI z2), some (vI ((((n : Nat) : Int) - 1) + 1)), some (vI i2), none]) rfl rfl (by omega) rfl (k_goto hK (t := 36) dX8_pass_140 rfl ?_)
        refine k_weak hK (L2 := [some (vR 32), some (vI z2), some (vI ((((n : Nat) : Int) - 1) + 1)), none, none]) ⟨Or.inl rfl, Or.inl rfl, Or.inl rfl, Or.inr rfl, Or.inl rfl, trivial⟩ ?_
        have hp9 : ((n : Nat) : Int) - 1 + 1 = ((n + 1 : Nat) : Int) - 1 := by omega
        rw [hp9]
        exact ih (n + 1) M6 z2 (by omega) hs6 (by rw [Ev_map]; exact hfe6) (by rw [Ev_map]; exact hfl6) hf6
      · rw [q43]
        simpa using hfe
      · simpa using hfl

set_option maxRecDepth 20000 in
set_option maxHeartbeats 2000000 in
theorem pass_copy {C : Nat → List ra_V → ra_M → (Option ra_V → ra_M → Prop) → Prop} {Q : Option ra_V → ra_M → Prop} {K : Nat → ra_L → List ra_V → ra_M → Prop} (hK : ra_Clo C m_X8_pass cX8_pass Q K) {M0 : ra_M}
    (hX : ∀ (M : ra_M), eq61 (M 43) (M0 42) → frM [43] [] M0 M → ∀ z, K 26 [some (vR 32), some (vI z), none, none, none] [] M) :
    ∀ (n i : Nat) (M : ra_M), i + n = 61 → (∀ t : Nat, t < i → M 43 (t : Nat) = M0 42 (t : Nat)) → frM [43] [] M0 M → K 2 [some (vR 32), some (vI (i : Nat)), none, none, none] [] M := by
  intro n
  induction n with
  | zero =>
    intro i M hi hc hf
    refine k_iln hK (q := 3)  dX8_pass_2 rfl (z := (i : Nat)) rfl (k_bp hK (q := 5)  dX8_pass_3 rfl (by decide) ?_)
    refine k_cge hK (q := 8) (t := 26) dX8_pass_5 rfl rfl (fun h5 => ?_) (fun h5 => ?_)
    · exact hX M (fun j a b => by have := hc j.toNat (by omega); rw [show ((j.toNat : Nat) : Int) = j by omega] at this; exact this) hf _
    · exact absurd h5 (by omega)
  | succ n ih =>
    intro i M hi hc hf
    have q42 : M 42 = M0 42 := hf.1 42 (by decide) (by decide)
    refine k_iln hK (q := 3)  dX8_pass_2 rfl (z := (i : Nat)) rfl (k_bp hK (q := 5)  dX8_pass_3 rfl (by decide) ?_)
    refine k_cge hK (q := 8) (t := 26) dX8_pass_5 rfl rfl (fun h5 => ?_) (fun h5 => ?_)
    · exact absurd h5 (by omega)
    · refine k_aln hK (q := 9)  dX8_pass_8 rfl (z := 32) rfl (k_gR hK (q := 12) (r := 43) dX8_pass_9 rfl rf_X8_47 rfl rfl (k_iln hK (q := 13)  dX8_pass_12 rfl (z := (i : Nat)) rfl (k_aln hK (q := 14)  dX8_pass_13 rfl (z := 32) rfl (k_gR hK (q := 17) (r := 42) dX8_pass_14 rfl rf_X8_44 rfl rfl (k_iln hK (q := 18)  dX8_pass_17 rfl (z := (i : Nat)) rfl ?_)))))
      refine k_ald hK (q := 19)  dX8_pass_18 rfl (y := M 42 (i : Nat)) rfl (by omega) rfl (k_ast hK (q := 20)  dX8_pass_19 rfl rfl (by omega) (k_inc hK (q := 23)  dX8_pass_20 rfl (y := (i : Nat) + 1) (L2 := [some (vR 32), some (vI ((i : Nat) + 1)), none, none, none]) rfl rfl (by omega) rfl (k_goto hK (t := 2) dX8_pass_23 rfl ?_)))
      refine ih (i + 1) _ (by omega) (fun t ht => ?_) (frM_up hf _ _ (by decide) (by decide))
      by_cases h : t = i
      · subst h
        rw [up_same, q42]
      · rw [up_j _ _ (by omega)]
        exact hc t (by omega)

set_option maxRecDepth 20000 in
set_option maxHeartbeats 2000000 in
theorem xm_pass (d : Nat) (M : ra_M) (S : Sc) (hs : scM M = S) (hS : okSc S) (v : Int → Int) (B : Int) (hv : eq61 (M 42) v) (hdd : dd S B v) : Ex (d + 2) m_X8_pass [vR 32] M (fun r M2 => r = none ∧ eq61 (M2 43) (fwdC S v) ∧ frM [43, 47, 48] [25] M M2) := by
  refine Ex_call (Nat.le_of_ble_eq_true rfl) (fun K hK => ?_)
  show K 0 [some (vR 32), none, none, none, none] [] M
  have hK : ra_Clo _ m_X8_pass cX8_pass _ K := hK
  have hok := okE_sk hS (E := Ew S) (fun e he => he)
  have hso := sk_ok hS (E := Ew S) (fun e he => he)
  have hddr : ∀ r : Nat, ∃ B2, dd S B2 (rep ((Ew S).map (sk1 S)) r v) := fun r => ⟨_, dd_rep hso (Int.le_refl _) (by omega) r B v hdd⟩
  have hfin : fwdC S v = rep ((Ew S).map (sk1 S)) 61 v := by unfold fwdC; exact (rep_Ew hS 61 B v hdd).symm
  have JX : ∀ M1 : ra_M, eq61 (M1 43) (fwdC S v) → frM [43, 47, 48] [25] M M1 → K 28 [some (vR 32), some (vI 0), none, none, none] [] M1 := by
    intro M1 h1 h2
    refine k_iln hK (q := 29)  dX8_pass_28 rfl (z := 0) rfl ?_
    refine k_ifeq hK (q := 32) (t := 146) dX8_pass_29 rfl rfl (fun _ => ?_) (fun h29 => absurd h29 (by decide))
    refine k_vr hK dX8_pass_146 rfl ?_
    exact ⟨rfl, h1, h2⟩
  have JW : ∀ (n r : Nat) (M1 : ra_M), r + n = 61 → scM M1 = S → eq61 (M1 43) (rep ((Ew S).map (sk1 S)) r v) → frM [43, 47, 48] [25] M M1 → K 28 [some (vR 32), some (vI 1), none, none, none] [] M1 := by
    intro n
    induction n with
    | zero =>
      intro r M1 hr hs1 h1 hf1
      have hr61 : r = 61 := by omega
      subst hr61
      obtain ⟨B2, hB2⟩ := hddr 61
      refine k_iln hK (q := 29)  dX8_pass_28 rfl (z := 1) rfl ?_
      refine k_ifeq hK (q := 32) (t := 146) dX8_pass_29 rfl rfl (fun h29 => absurd h29 (by decide)) (fun _ => ?_)
      refine k_ic hK (q := 33)  dX8_pass_32 rfl (by decide) (k_isn hK (q := 34)  dX8_pass_33 rfl (L2 := [some (vR 32), some (vI 0), none, none, none]) (Nat.le_of_ble_eq_true rfl) rfl (k_ic hK (q := 35)  dX8_pass_34 rfl (by decide) (k_isn hK (q := 36)  dX8_pass_35 rfl (L2 := [some (vR 32), some (vI 0), some (vI (-1)), none, none]) (Nat.le_of_ble_eq_true rfl) rfl ?_)))
      refine pass_out hK hS (M0 := M) (c := rep ((Ew S).map (sk1 S)) 61 v) (B := B2) hB2 (fun M6 z h3 h4 h5 h6 => ?_) ((S 0 0).toNat + 1) 0 M1 0 (by omega) hs1 h1 (Or.inl ⟨rfl, rfl⟩) hf1
      rcases h4 with ⟨hz, hf4⟩ | ⟨hz, j, hj⟩
      · subst hz
        rw [hf4, ← hfin] at h3
        exact JX M6 h3 h6
      · rw [bf_61 hok v] at hj
        omega
    | succ n ih =>
      intro r M1 hr hs1 h1 hf1
      obtain ⟨B2, hB2⟩ := hddr r
      refine k_iln hK (q := 29)  dX8_pass_28 rfl (z := 1) rfl ?_
      refine k_ifeq hK (q := 32) (t := 146) dX8_pass_29 rfl rfl (fun h29 => absurd h29 (by decide)) (fun _ => ?_)
      refine k_ic hK (q := 33)  dX8_pass_32 rfl (by decide) (k_isn hK (q := 34)  dX8_pass_33 rfl (L2 := [some (vR 32), some (vI 0), none, none, none]) (Nat.le_of_ble_eq_true rfl) rfl (k_ic hK (q := 35)  dX8_pass_34 rfl (by decide) (k_isn hK (q := 36)  dX8_pass_35 rfl (L2 := [some (vR 32), some (vI 0), some (vI (-1)), none, none]) (Nat.le_of_ble_eq_true rfl) rfl ?_)))
      refine pass_out hK hS (M0 := M) (c := rep ((Ew S).map (sk1 S)) r v) (B := B2) hB2 (fun M6 z h3 h4 h5 h6 => ?_) ((S 0 0).toNat + 1) 0 M1 0 (by omega) hs1 h1 (Or.inl ⟨rfl, rfl⟩) hf1
      rcases h4 with ⟨hz, hf4⟩ | ⟨hz, j, hj⟩
      · subst hz
        rw [hf4, bf_any hok v hf4, ← hfin] at h3
        exact JX M6 h3 h6
      · subst hz
        rw [← rep_succ] at h3
        exact ih (r + 1) M6 (by omega) h5 h3 h6
  have J26 : ∀ M1 : ra_M, eq61 (M1 43) (M 42) → frM [43] [] M M1 → ∀ z, K 26 [some (vR 32), some (vI z), none, none, none] [] M1 := by
    intro M1 h1 hf1 z
    refine k_ic hK (q := 27)  dX8_pass_26 rfl (by decide) (k_isn hK (q := 28)  dX8_pass_27 rfl (L2 := [some (vR 32), some (vI 1), none, none, none]) (Nat.le_of_ble_eq_true rfl) rfl ?_)
    exact JW 61 0 M1 (by omega) (by rw [scM_fr hf1 (by decide) (by decide)]; exact hs) (fun j a b => (h1 j a b).trans (hv j a b)) (frM_sub hf1 (by decide) (by decide))
  refine k_ic hK (q := 1)  dX8_pass_0 rfl (by decide) (k_isn hK (q := 2)  dX8_pass_1 rfl (L2 := [some (vR 32), some (vI 0), none, none, none]) (Nat.le_of_ble_eq_true rfl) rfl ?_)
  exact pass_copy hK J26 61 0 M (by omega) (fun t ht => by omega) (frM_refl _ _ _)
