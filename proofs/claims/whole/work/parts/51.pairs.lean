/-! a call on both: the same answer, and both stand for one sound state again -/
def Iv (t : Nat) (M : ra_M) : Prop := ∃ q : Stt, WFs t q ∧ ICs q M ∧ IMs q M

theorem pr_note (t : Nat) (M : ra_M) (h : Iv t M) (p s : Int) : Ex 8 m_X7_note [vR 0, vI p, vI s] M (fun r M1 => Ex 8 m_X8_note [vR 32, vI p, vI s] M1 (fun r2 M2 => ∃ z, r = some (vI z) ∧ r2 = some (vI z) ∧ Iv (t + 1) M2)) := by
  obtain ⟨⟨S, cnt, hp, ht, ses, bx, du, al⟩, hw, hI, hM⟩ := h
  have hw : WF t S cnt hp ht ses bx al := hw
  refine Ex_mono _ _ _ _ (xc_note 7 t M S cnt hp ht ses bx du al hI hw p s) (fun r M1 h1 => ?_)
  obtain ⟨hr, hI1, hc⟩ := h1
  refine Ex_mono _ _ _ _ (xm_note 3 t M1 S cnt hp ht ses bx du al (IM_hi hM hc) hw p s) (fun r2 M2 h2 => ?_)
  obtain ⟨hr2, hM2, hm⟩ := h2
  exact ⟨_, hr, hr2, _, WF_note hw p s, IC_low hI1 hm, hM2⟩

theorem pr_way (t : Nat) (M : ra_M) (h : Iv t M) (f g : Int) : Ex 8 m_X7_way [vR 0, vI f, vI g] M (fun r M1 => Ex 8 m_X8_way [vR 32, vI f, vI g] M1 (fun r2 M2 => ∃ z, r = some (vI z) ∧ r2 = some (vI z) ∧ Iv (t + 1) M2)) := by
  obtain ⟨⟨S, cnt, hp, ht, ses, bx, du, al⟩, hw, hI, hM⟩ := h
  have hw : WF t S cnt hp ht ses bx al := hw
  refine Ex_mono _ _ _ _ (xc_way 7 t M S cnt hp ht ses bx du al hI hw f g) (fun r M1 h1 => ?_)
  obtain ⟨hr, hI1, hc⟩ := h1
  refine Ex_mono _ _ _ _ (xm_way 8 t M1 S cnt hp ht ses bx du al (IM_hi hM hc) hw f g) (fun r2 M2 h2 => ?_)
  obtain ⟨hr2, hM2, hm⟩ := h2
  exact ⟨_, hr, hr2, _, WF_way hw f g, IC_low hI1 hm, hM2⟩

theorem pr_loop (t : Nat) (M : ra_M) (h : Iv t M) (f g : Int) : Ex 8 m_X7_loop [vR 0, vI f, vI g] M (fun r M1 => Ex 8 m_X8_loop [vR 32, vI f, vI g] M1 (fun r2 M2 => ∃ z, r = some (vI z) ∧ r2 = some (vI z) ∧ Iv (t + 1) M2)) := by
  obtain ⟨⟨S, cnt, hp, ht, ses, bx, du, al⟩, hw, hI, hM⟩ := h
  have hw : WF t S cnt hp ht ses bx al := hw
  refine Ex_mono _ _ _ _ (xc_loop 7 t M S cnt hp ht ses bx du al hI hw f g) (fun r M1 h1 => ?_)
  obtain ⟨hr, hI1, hc⟩ := h1
  refine Ex_mono _ _ _ _ (xm_loop 3 t M1 S cnt hp ht ses bx du al (IM_hi hM hc) hw f g) (fun r2 M2 h2 => ?_)
  obtain ⟨hr2, hM2, hm⟩ := h2
  exact ⟨_, hr, hr2, _, WF_loop hw f g, IC_low hI1 hm, hM2⟩

theorem pr_cost (t : Nat) (M : ra_M) (h : Iv t M) (w v : Int) : Ex 8 m_X7_cost [vR 0, vI w, vI v] M (fun r M1 => Ex 8 m_X8_cost [vR 32, vI w, vI v] M1 (fun r2 M2 => ∃ z, r = some (vI z) ∧ r2 = some (vI z) ∧ Iv (t + 1) M2)) := by
  obtain ⟨⟨S, cnt, hp, ht, ses, bx, du, al⟩, hw, hI, hM⟩ := h
  have hw : WF t S cnt hp ht ses bx al := hw
  refine Ex_mono _ _ _ _ (xc_cost 7 t M S cnt hp ht ses bx du al hI hw w v) (fun r M1 h1 => ?_)
  obtain ⟨hr, hI1, hc⟩ := h1
  refine Ex_mono _ _ _ _ (xm_cost 8 t M1 S cnt hp ht ses bx du al (IM_hi hM hc) hw w v) (fun r2 M2 h2 => ?_)
  obtain ⟨hr2, hM2, hm⟩ := h2
  exact ⟨_, hr, hr2, _, WF_cost hw w v, IC_low hI1 hm, hM2⟩

theorem pr_span (t : Nat) (M : ra_M) (h : Iv t M) (s : Int) : Ex 8 m_X7_span [vR 0, vI s] M (fun r M1 => Ex 8 m_X8_span [vR 32, vI s] M1 (fun r2 M2 => ∃ z, r = some (vI z) ∧ r2 = some (vI z) ∧ Iv (t + 1) M2)) := by
  obtain ⟨⟨S, cnt, hp, ht, ses, bx, du, al⟩, hw, hI, hM⟩ := h
  have hw : WF t S cnt hp ht ses bx al := hw
  refine Ex_mono _ _ _ _ (xc_span 7 t M S cnt hp ht ses bx du al hI hw s) (fun r M1 h1 => ?_)
  obtain ⟨hr, hI1, hc⟩ := h1
  refine Ex_mono _ _ _ _ (xm_span 8 t M1 S cnt hp ht ses bx du al (IM_hi hM hc) hw s) (fun r2 M2 h2 => ?_)
  obtain ⟨hr2, hM2, hm⟩ := h2
  exact ⟨_, hr, hr2, _, WF_span hw s, IC_low hI1 hm, hM2⟩

theorem pr_cut (t : Nat) (M : ra_M) (h : Iv t M) (n9 : Int) : Ex 8 m_X7_cut [vR 0, vI n9] M (fun r M1 => Ex 8 m_X8_cut [vR 32, vI n9] M1 (fun r2 M2 => ∃ z, r = some (vI z) ∧ r2 = some (vI z) ∧ Iv (t + 1) M2)) := by
  obtain ⟨⟨S, cnt, hp, ht, ses, bx, du, al⟩, hw, hI, hM⟩ := h
  have hw : WF t S cnt hp ht ses bx al := hw
  refine Ex_mono _ _ _ _ (xc_cut 3 t M S cnt hp ht ses bx du al hI hw n9) (fun r M1 h1 => ?_)
  obtain ⟨hr, hI1, hc⟩ := h1
  refine Ex_mono _ _ _ _ (xm_cut 3 t M1 S cnt hp ht ses bx du al (IM_hi hM hc) hw n9) (fun r2 M2 h2 => ?_)
  obtain ⟨hr2, hM2, hm⟩ := h2
  exact ⟨_, hr, hr2, _, WF_cut hw n9, IC_low hI1 hm, hM2⟩

theorem pr_hear (t : Nat) (M : ra_M) (h : Iv t M) (p t9 : Int) : Ex 8 m_X7_hear [vR 0, vI p, vI t9] M (fun r M1 => Ex 8 m_X8_hear [vR 32, vI p, vI t9] M1 (fun r2 M2 => ∃ z, r = some (vI z) ∧ r2 = some (vI z) ∧ Iv (t + 1) M2)) := by
  obtain ⟨⟨S, cnt, hp, ht, ses, bx, du, al⟩, hw, hI, hM⟩ := h
  have hw : WF t S cnt hp ht ses bx al := hw
  obtain ⟨k, rfl⟩ : ∃ k : Nat, cnt = (k : Nat) := ⟨cnt.toNat, by have := hw.2.1; omega⟩
  refine Ex_mono _ _ _ _ (xc_hear 3 t M S k hp ht ses bx du al hI hw p t9) (fun r M1 h1 => ?_)
  obtain ⟨hr, hI1, hc⟩ := h1
  refine Ex_mono _ _ _ _ (xm_hear 4 t M1 S k hp ht ses bx du al (IM_hi hM hc) hw p t9) (fun r2 M2 h2 => ?_)
  obtain ⟨hr2, hM2, hm⟩ := h2
  exact ⟨_, hr, hr2, _, WF_hear hw p t9, IC_low hI1 hm, hM2⟩

theorem pr_end (t : Nat) (M : ra_M) (h : Iv t M) (ht9 : t ≤ 100000) : Ex 8 m_X7_end [vR 0] M (fun r M1 => Ex 8 m_X8_end [vR 32] M1 (fun r2 M2 => ∃ z, r = some (vI z) ∧ r2 = some (vI z) ∧ Iv (t + 1) M2)) := by
  obtain ⟨⟨S, cnt, hp, ht, ses, bx, du, al⟩, hw, hI, hM⟩ := h
  have hw : WF t S cnt hp ht ses bx al := hw
  refine Ex_mono _ _ _ _ (xc_end 6 t M S cnt hp ht ses bx du al hI hw ht9) (fun r M1 h1 => ?_)
  obtain ⟨hr, hI1, hc⟩ := h1
  refine Ex_mono _ _ _ _ (xm_end 2 t M1 S cnt hp ht ses bx du al (IM_hi hM hc) hw ht9) (fun r2 M2 h2 => ?_)
  obtain ⟨hr2, hM2, hm⟩ := h2
  exact ⟨_, hr, hr2, _, WF_end hw, IC_low hI1 hm, hM2⟩

theorem pr_valueOf (t : Nat) (M : ra_M) (h : Iv t M) (p : Int) : Ex 8 m_X7_valueOf [vR 0, vI p] M (fun r M1 => Ex 8 m_X8_valueOf [vR 32, vI p] M1 (fun r2 M2 => ∃ z, r = some (vI z) ∧ r2 = some (vI z) ∧ Iv (t + 1) M2)) := by
  obtain ⟨⟨S, cnt, hp, ht, ses, bx, du, al⟩, hw, hI, hM⟩ := h
  have hw : WF t S cnt hp ht ses bx al := hw
  refine Ex_mono _ _ _ _ (xc_valueOf 7 t M S cnt hp ht ses bx du al hI hw p) (fun r M1 h1 => ?_)
  obtain ⟨hr, hM1⟩ := h1
  subst hM1
  refine Ex_mono _ _ _ _ (xm_valueOf 8 t M1 S cnt hp ht ses bx du al hM hw p) (fun r2 M2 h2 => ?_)
  obtain ⟨hr2, hM2, hm⟩ := h2
  exact ⟨_, hr, hr2, (S, cnt, hp, ht, ses, bx, du, al), WF_mono hw, IC_low (q := (S, cnt, hp, ht, ses, bx, du, al)) hI hm, hM2⟩

theorem pr_tempo (t : Nat) (M : ra_M) (h : Iv t M) (side : Int) : Ex 8 m_X7_tempo [vR 0, vI side] M (fun r M1 => Ex 8 m_X8_tempo [vR 32, vI side] M1 (fun r2 M2 => ∃ z, r = some (vI z) ∧ r2 = some (vI z) ∧ Iv (t + 1) M2)) := by
  obtain ⟨⟨S, cnt, hp, ht, ses, bx, du, al⟩, hw, hI, hM⟩ := h
  have hw : WF t S cnt hp ht ses bx al := hw
  refine Ex_mono _ _ _ _ (xc_tempo 5 t M S cnt hp ht ses bx du al hI hw side) (fun r M1 h1 => ?_)
  obtain ⟨hr, hM1⟩ := h1
  subst hM1
  refine Ex_mono _ _ _ _ (xm_tempo 6 t M1 S cnt hp ht ses bx du al hM hw side) (fun r2 M2 h2 => ?_)
  obtain ⟨hr2, hM2, hm⟩ := h2
  exact ⟨_, hr, hr2, (S, cnt, hp, ht, ses, bx, du, al), WF_mono hw, IC_low (q := (S, cnt, hp, ht, ses, bx, du, al)) hI hm, hM2⟩

theorem pr_ahead (t : Nat) (M : ra_M) (h : Iv t M) (n : Int) : Ex 8 m_X7_ahead [vR 0, vI n] M (fun r M1 => Ex 8 m_X8_ahead [vR 32, vI n] M1 (fun r2 M2 => ∃ z, r = some (vJ z) ∧ r2 = some (vJ z) ∧ Iv (t + 1) M2)) := by
  obtain ⟨⟨S, cnt, hp, ht, ses, bx, du, al⟩, hw, hI, hM⟩ := h
  have hw : WF t S cnt hp ht ses bx al := hw
  refine Ex_mono _ _ _ _ (xc_ahead 4 t M S cnt hp ht ses bx du al hI hw n) (fun r M1 h1 => ?_)
  obtain ⟨hr, hM1⟩ := h1
  subst hM1
  refine Ex_mono _ _ _ _ (xm_ahead 6 t M1 S cnt hp ht ses bx du al hM hw n) (fun r2 M2 h2 => ?_)
  obtain ⟨hr2, hM2, hm⟩ := h2
  exact ⟨_, hr, hr2, (S, cnt, hp, ht, ses, bx, du, al), WF_mono hw, IC_low (q := (S, cnt, hp, ht, ses, bx, du, al)) hI hm, hM2⟩

theorem pr_step (t : Nat) (M : ra_M) (h : Iv t M) (k w : Int) : Ex 8 m_X7_step [vR 0, vI k, vI w] M (fun r M1 => Ex 8 m_X8_step [vR 32, vI k, vI w] M1 (fun r2 M2 => ∃ z, r = some (vI z) ∧ r2 = some (vI z) ∧ Iv (t + 1) M2)) := by
  obtain ⟨⟨S, cnt, hp, ht, ses, bx, du, al⟩, hw, hI, hM⟩ := h
  have hw : WF t S cnt hp ht ses bx al := hw
  refine Ex_mono _ _ _ _ (xc_step 2 t M S cnt hp ht ses bx du al hI hw k w (fun q hq => AlS_len (hw.2.2.2.2.2.2 q hq))) (fun r M1 h1 => ?_)
  obtain ⟨hr, hI1, hc⟩ := h1
  refine Ex_mono _ _ _ _ (xm_step 8 t M1 S cnt hp ht ses bx du al (IM_hi hM hc) hw k w) (fun r2 M2 h2 => ?_)
  obtain ⟨hr2, hM2, hm⟩ := h2
  exact ⟨_, hr, hr2, (S, cnt, hp, ht, ses, bx, du, al), WF_mono hw, IC_low (q := (S, cnt, hp, ht, ses, bx, du, al)) hI1 hm, hM2⟩

theorem pr_steps (t : Nat) (M : ra_M) (h : Iv t M) : Ex 8 m_X7_steps [vR 0] M (fun r M1 => Ex 8 m_X8_steps [vR 32] M1 (fun r2 M2 => ∃ z, r = some (vI z) ∧ r2 = some (vI z) ∧ Iv (t + 1) M2)) := by
  obtain ⟨⟨S, cnt, hp, ht, ses, bx, du, al⟩, hw, hI, hM⟩ := h
  have hw : WF t S cnt hp ht ses bx al := hw
  refine Ex_mono _ _ _ _ (xc_steps 7 t M S cnt hp ht ses bx du al hI hw ) (fun r M1 h1 => ?_)
  obtain ⟨hr, hM1⟩ := h1
  subst hM1
  refine Ex_mono _ _ _ _ (xm_steps 8 t M1 S cnt hp ht ses bx du al hM hw ) (fun r2 M2 h2 => ?_)
  obtain ⟨hr2, hM2, hm⟩ := h2
  exact ⟨_, hr, hr2, (S, cnt, hp, ht, ses, bx, du, al), WF_mono hw, IC_low (q := (S, cnt, hp, ht, ses, bx, du, al)) hI hm, hM2⟩

theorem pr_matched (t : Nat) (M : ra_M) (h : Iv t M) (e : Int) : Ex 8 m_X7_matched [vR 0, vI e] M (fun r M1 => Ex 8 m_X8_matched [vR 32, vI e] M1 (fun r2 M2 => ∃ z, r = some (vI z) ∧ r2 = some (vI z) ∧ Iv (t + 1) M2)) := by
  obtain ⟨⟨S, cnt, hp, ht, ses, bx, du, al⟩, hw, hI, hM⟩ := h
  have hw : WF t S cnt hp ht ses bx al := hw
  refine Ex_mono _ _ _ _ (xc_matched 7 t M S cnt hp ht ses bx du al hI hw e) (fun r M1 h1 => ?_)
  obtain ⟨hr, hM1⟩ := h1
  subst hM1
  refine Ex_mono _ _ _ _ (xm_matched 8 t M1 S cnt hp ht ses bx du al hM hw e) (fun r2 M2 h2 => ?_)
  obtain ⟨hr2, hM2, hm⟩ := h2
  exact ⟨_, hr, hr2, (S, cnt, hp, ht, ses, bx, du, al), WF_mono hw, IC_low (q := (S, cnt, hp, ht, ses, bx, du, al)) hI hm, hM2⟩

theorem pr_grade (t : Nat) (M : ra_M) (h : Iv t M) (n w : Int) : Ex 8 m_X7_grade [vR 0, vI n, vI w] M (fun r M1 => Ex 8 m_X8_grade [vR 32, vI n, vI w] M1 (fun r2 M2 => ∃ z, r = some (vI z) ∧ r2 = some (vI z) ∧ Iv (t + 1) M2)) := by
  obtain ⟨⟨S, cnt, hp, ht, ses, bx, du, al⟩, hw, hI, hM⟩ := h
  have hw : WF t S cnt hp ht ses bx al := hw
  refine Ex_mono _ _ _ _ (xc_grade 7 t M S cnt hp ht ses bx du al hI hw n w) (fun r M1 h1 => ?_)
  obtain ⟨hr, hM1⟩ := h1
  subst hM1
  refine Ex_mono _ _ _ _ (xm_grade 7 t M1 S cnt hp ht ses bx du al hM hw n w) (fun r2 M2 h2 => ?_)
  obtain ⟨hr2, hM2, hm⟩ := h2
  exact ⟨_, hr, hr2, (S, cnt, hp, ht, ses, bx, du, al), WF_mono hw, IC_low (q := (S, cnt, hp, ht, ses, bx, du, al)) hI hm, hM2⟩

theorem pr_due (t : Nat) (M : ra_M) (h : Iv t M) (k : Int) (hk : k ≤ 2147483647) : Ex 8 m_X7_due [vR 0, vI k] M (fun r M1 => Ex 8 m_X8_due [vR 32, vI k] M1 (fun r2 M2 => ∃ z, r = some (vI z) ∧ r2 = some (vI z) ∧ Iv (t + 1) M2)) := by
  obtain ⟨⟨S, cnt, hp, ht, ses, bx, du, al⟩, hw, hI, hM⟩ := h
  have hw : WF t S cnt hp ht ses bx al := hw
  refine Ex_mono _ _ _ _ (xc_due 7 t M S cnt hp ht ses bx du al hI hw k hk) (fun r M1 h1 => ?_)
  obtain ⟨hr, hM1⟩ := h1
  subst hM1
  refine Ex_mono _ _ _ _ (xm_due 8 t M1 S cnt hp ht ses bx du al hM hw k hk) (fun r2 M2 h2 => ?_)
  obtain ⟨hr2, hM2, hm⟩ := h2
  exact ⟨_, hr, hr2, (S, cnt, hp, ht, ses, bx, du, al), WF_mono hw, IC_low (q := (S, cnt, hp, ht, ses, bx, du, al)) hI hm, hM2⟩

theorem pr_of (t : Nat) (M : ra_M) (h : Iv t M) (n w : Int) : Ex 8 m_X7_of [vR 0, vI n, vI w] M (fun r M1 => Ex 8 m_X8_of [vR 32, vI n, vI w] M1 (fun r2 M2 => ∃ z, r = some (vI z) ∧ r2 = some (vI z) ∧ Iv (t + 1) M2)) := by
  obtain ⟨⟨S, cnt, hp, ht, ses, bx, du, al⟩, hw, hI, hM⟩ := h
  have hw : WF t S cnt hp ht ses bx al := hw
  refine Ex_mono _ _ _ _ (xc_of 7 t M S cnt hp ht ses bx du al hI hw n w) (fun r M1 h1 => ?_)
  obtain ⟨hr, hM1⟩ := h1
  subst hM1
  refine Ex_mono _ _ _ _ (xm_of 8 t M1 S cnt hp ht ses bx du al hM hw n w) (fun r2 M2 h2 => ?_)
  obtain ⟨hr2, hM2, hm⟩ := h2
  exact ⟨_, hr, hr2, (S, cnt, hp, ht, ses, bx, du, al), WF_mono hw, IC_low (q := (S, cnt, hp, ht, ses, bx, du, al)) hI hm, hM2⟩

theorem pr_told (t : Nat) (M : ra_M) (h : Iv t M) (w : Int) : Ex 8 m_X7_told [vR 0, vI w] M (fun r M1 => Ex 8 m_X8_told [vR 32, vI w] M1 (fun r2 M2 => ∃ z, r = some (vI z) ∧ r2 = some (vI z) ∧ Iv (t + 1) M2)) := by
  obtain ⟨⟨S, cnt, hp, ht, ses, bx, du, al⟩, hw, hI, hM⟩ := h
  have hw : WF t S cnt hp ht ses bx al := hw
  refine Ex_mono _ _ _ _ (xc_told 7 t M S cnt hp ht ses bx du al hI hw w) (fun r M1 h1 => ?_)
  obtain ⟨hr, hM1⟩ := h1
  subst hM1
  refine Ex_mono _ _ _ _ (xm_told 8 t M1 S cnt hp ht ses bx du al hM hw w) (fun r2 M2 h2 => ?_)
  obtain ⟨hr2, hM2, hm⟩ := h2
  exact ⟨_, hr, hr2, (S, cnt, hp, ht, ses, bx, du, al), WF_mono hw, IC_low (q := (S, cnt, hp, ht, ses, bx, du, al)) hI hm, hM2⟩

theorem pr_clear (t : Nat) (M : ra_M) (h : Iv t M) : Ex 8 m_X7_clear [vR 0] M (fun r M1 => Ex 8 m_X8_clear [vR 32] M1 (fun r2 M2 => r = none ∧ r2 = none ∧ Iv (t + 1) M2)) := by
  obtain ⟨⟨S, cnt, hp, ht, ses, bx, du, al⟩, hw, hI, hM⟩ := h
  have hw : WF t S cnt hp ht ses bx al := hw
  refine Ex_mono _ _ _ _ (xc_clear 6 t M S cnt hp ht ses bx du al hI hw ) (fun r M1 h1 => ?_)
  obtain ⟨hr, hI1, hc⟩ := h1
  refine Ex_mono _ _ _ _ (xm_clear 1 t M1 S cnt hp ht ses bx du al (IM_hi hM hc) hw) (fun r2 M2 h2 => ?_)
  obtain ⟨hr2, hM2, hm⟩ := h2
  exact ⟨hr, hr2, (eS S, 0, hp, ht, 0, bx, du, none), WF_clear hw, IC_low (q := (eS S, 0, hp, ht, 0, bx, du, none)) hI1 hm, hM2⟩

theorem pr_align (t : Nat) (M : ra_M) (h : Iv t M) : Ex 8 m_X7_align [vR 0] M (fun r M1 => Ex 8 m_X8_align [vR 32] M1 (fun r2 M2 => ∃ z, r = some (vI z) ∧ r2 = some (vI z) ∧ Iv (t + 1) M2)) := by
  obtain ⟨⟨S, cnt, hp, ht, ses, bx, du, al⟩, hw, hI, hM⟩ := h
  have hw : WF t S cnt hp ht ses bx al := hw
  refine Ex_mono _ _ _ _ (xc_align 0 t M S cnt hp ht ses bx du al hI hw ) (fun r M1 h1 => ?_)
  rcases h1 with ⟨h0, hr, hM1⟩ | ⟨h0, sum, ls, ha, hr, hI1, hc⟩
  · subst hM1
    refine Ex_mono _ _ _ _ (xm_align0 8 t M1 S cnt hp ht ses bx du al hM hw h0) (fun r2 M2 h2 => ?_)
    obtain ⟨hr2, hM2, hm⟩ := h2
    exact ⟨_, hr, hr2, (S, cnt, hp, ht, ses, bx, du, al), WF_mono hw, IC_low (q := (S, cnt, hp, ht, ses, bx, du, al)) hI hm, hM2⟩
  · refine Ex_mono _ _ _ _ (xm_align 5 t M1 S cnt hp ht ses bx du al (IM_hi hM hc) hw h0 sum ls ha) (fun r2 M2 h2 => ?_)
    obtain ⟨hr2, hM2, hm⟩ := h2
    exact ⟨_, hr, hr2, (S, cnt, hp, ht, ses, bx, du, some (sum, ls)), WF_align hw ha, IC_low (q := (S, cnt, hp, ht, ses, bx, du, some (sum, ls))) hI1 hm, hM2⟩

/-- mean: either nothing is thrown, and both answer alike; or the class throws, and the reference says so -/
theorem pr_mean (t : Nat) (M : ra_M) (h : Iv t M) (side : Int) :
    (∃ z, Ex 6 m_X7_mean [vR 0, vI side] M (fun r M1 => r = some (vI z) ∧ M1 = M) ∧ Ex 8 m_X8_mean [vR 32, vI side] M (fun r2 M2 => r2 = some (vI z) ∧ M2 32 34 = 0 ∧ Iv (t + 1) M2)) ∨
    ((0 ≤ side ∧ side ≤ 1) ∧ M 21 10 = 1 ∧ (0 ≤ M 1 5 ∧ M 1 5 ≤ 60) ∧ (∀ i : Nat, i < 60 → (0 ≤ M 26 (i : Nat) ∧ M 26 (i : Nat) ≤ 7320)) ∧ sumF (M 26) (M 1 5).toNat = 0 ∧ Ex 8 m_X8_mean [vR 32, vI side] M (fun r2 M2 => r2 = some (vI 0) ∧ M2 32 34 = 1 ∧ Iv (t + 1) M2)) := by
  obtain ⟨⟨S, cnt, hp, ht, ses, bx, du, al⟩, hw, hI, hM⟩ := h
  have hw : WF t S cnt hp ht ses bx al := hw
  have hI : IC S cnt hp ht ses bx du al M := hI
  have hmod := xm_mean 7 t M S cnt hp ht ses bx du al hM hw side
  by_cases hth : mThr S al side
  · right
    obtain ⟨hsd, q, rfl, hz⟩ := hth
    have hs := hI.1
    have hL := hI.2.2.2.2.2.2
    have hl9 := AlS_len (hw.2.2.2.2.2.2 q rfl)
    have hW : WS S hp M q.2 cnt := hL.2.2.1
    have e5 := (scC_e hs).1
    have hs0 := hw.1.1
    refine ⟨hsd, hL.1, by omega, fun i hi => by rw [(hW.2.1 (i : Nat) (by omega) (by omega)).1]; exact cPl_in _ _ hl9, ?_, Ex_mono _ _ _ _ hmod (fun r2 M2 h2 => ?_)⟩
    · rw [e5]
      exact (sumF_cong (S 0 0).toNat (fun i hi => (hW.2.1 (i : Nat) (by omega) (by omega)).1)).trans hz
    · obtain ⟨-, h3, hM2, hm⟩ := h2
      have h4 := h3 ⟨hsd, q, rfl, hz⟩
      exact ⟨h4.1, h4.2, (S, cnt, hp, ht, ses, bx, du, some q), WF_mono hw, IC_low (q := (S, cnt, hp, ht, ses, bx, du, some q)) hI hm, hM2⟩
  · left
    refine ⟨aMea S hp al side, xc_mean 4 t M S cnt hp ht ses bx du al hI hw side (fun q hq => AlS_len (hw.2.2.2.2.2.2 q hq)) hth, Ex_mono _ _ _ _ hmod (fun r2 M2 h2 => ?_)⟩
    obtain ⟨h3, -, hM2, hm⟩ := h2
    have h4 := h3 hth
    exact ⟨h4.1, h4.2, (S, cnt, hp, ht, ses, bx, du, al), WF_mono hw, IC_low (q := (S, cnt, hp, ht, ses, bx, du, al)) hI hm, hM2⟩
