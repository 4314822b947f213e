/-! the reference: what is left to pay -/
def r49 (M : ra_M) (e : Int) : Int → Int := fun j => M 49 (e * 61 + j)
def T49 (M : ra_M) : Int → Int → Int := fun e p => M 49 (e * 61 + p + 1)
def off9 (e : Int) (M M2 : ra_M) : Prop := ∀ z, (z < e * 61 ∨ e * 61 + 61 ≤ z) → M2 49 z = M 49 z
theorem off9_up {e : Int} {M M2 : ra_M} (h : off9 e M M2) {i v : Int} (hi : e * 61 ≤ i ∧ i < e * 61 + 61) : off9 e M (up M2 49 i v) := fun z hz => by
  rw [up_j _ _ (by omega)]
  exact h z hz
theorem off9_eq {e : Int} {M M1 M2 : ra_M} (h : off9 e M M1) (h2 : M2 49 = M1 49) : off9 e M M2 := fun z hz => by
  rw [h2]
  exact h z hz
theorem r49_up (M : ra_M) (e p v : Int) : r49 (up M 49 (e * 61 + p + 1) v) e = fU (r49 M e) (p + 1) v := by
  funext j
  unfold r49 fU
  by_cases h : j = p + 1
  · rw [if_pos h, h, show e * 61 + (p + 1) = e * 61 + p + 1 by omega, up_same]
  · rw [if_neg h, up_j _ _ (by omega)]
def b1 (S : Sc) (pit : Int) (r1 : Int → Int) (l : List (Int × Int)) (c : Int) : Int := l.foldl (fun c q => min c (q.2 + wr S q.1 pit + r1 (q.1 + 1))) c
def b2 (S : Sc) (pit : Int) (r1 : Int → Int) (c : Int) : Nat → Int
  | 0 => c
  | n + 1 => min (b2 S pit r1 c n) (if thr S (n : Nat) then S 5 4 + wr S (n : Nat) pit + r1 ((n : Nat) + 1) else NV)
def bM (S : Sc) (pit : Int) (r1 : Int → Int) (j : Int) : Int := b2 S pit r1 (b1 S pit r1 (nx S (j - 1)) (S 5 1 + r1 j)) (S 0 0).toNat
theorem b1_le (S : Sc) (pit : Int) (r1 : Int → Int) : ∀ (l : List (Int × Int)) (c : Int), b1 S pit r1 l c ≤ c := by
  intro l
  induction l with
  | nil => intro c; exact Int.le_refl _
  | cons q l ih => intro c; have := ih (min c (q.2 + wr S q.1 pit + r1 (q.1 + 1))); show b1 S pit r1 l (min c (q.2 + wr S q.1 pit + r1 (q.1 + 1))) ≤ c; omega
theorem b1_at (S : Sc) (pit : Int) (r1 : Int → Int) : ∀ (l : List (Int × Int)) (c : Int), ∀ q ∈ l, b1 S pit r1 l c ≤ q.2 + wr S q.1 pit + r1 (q.1 + 1) := by
  intro l
  induction l with
  | nil => intro c q hq; cases hq
  | cons q l ih =>
    intro c x hx
    show b1 S pit r1 l (min c (q.2 + wr S q.1 pit + r1 (q.1 + 1))) ≤ _
    rcases List.mem_cons.mp hx with h | h
    · subst h
      have := b1_le S pit r1 l (min c (x.2 + wr S x.1 pit + r1 (x.1 + 1)))
      omega
    · exact ih _ x h
theorem b1_of (S : Sc) (pit : Int) (r1 : Int → Int) : ∀ (l : List (Int × Int)) (c : Int), b1 S pit r1 l c = c ∨ ∃ q ∈ l, b1 S pit r1 l c = q.2 + wr S q.1 pit + r1 (q.1 + 1) := by
  intro l
  induction l with
  | nil => intro c; exact Or.inl rfl
  | cons q l ih =>
    intro c
    have e : b1 S pit r1 (q :: l) c = b1 S pit r1 l (min c (q.2 + wr S q.1 pit + r1 (q.1 + 1))) := rfl
    rw [e]
    rcases ih (min c (q.2 + wr S q.1 pit + r1 (q.1 + 1))) with h | ⟨x, hx, h⟩
    · rw [h]
      by_cases hc : c ≤ q.2 + wr S q.1 pit + r1 (q.1 + 1)
      · left; omega
      · right; exact ⟨q, by simp, by omega⟩
    · right; exact ⟨x, by simp [hx], h⟩
theorem b2_le (S : Sc) (pit : Int) (r1 : Int → Int) (c : Int) : ∀ n : Nat, b2 S pit r1 c n ≤ c := by
  intro n
  induction n with
  | zero => exact Int.le_refl _
  | succ n ih => simp only [b2]; omega
theorem b2_at (S : Sc) (pit : Int) (r1 : Int → Int) (c : Int) : ∀ n i : Nat, i < n → thr S (i : Nat) → b2 S pit r1 c n ≤ S 5 4 + wr S (i : Nat) pit + r1 ((i : Nat) + 1) := by
  intro n
  induction n with
  | zero => intro i hi; omega
  | succ n ih =>
    intro i hi ht
    simp only [b2]
    by_cases h : i = n
    · subst h; rw [if_pos ht]; omega
    · have := ih i (by omega) ht; omega
theorem b2_of (S : Sc) (pit : Int) (r1 : Int → Int) {c : Int} (hc : c < NV) : ∀ n : Nat, b2 S pit r1 c n = c ∨ ∃ i : Nat, i < n ∧ thr S (i : Nat) ∧ b2 S pit r1 c n = S 5 4 + wr S (i : Nat) pit + r1 ((i : Nat) + 1) := by
  intro n
  induction n with
  | zero => exact Or.inl rfl
  | succ n ih =>
    have hl := b2_le S pit r1 c n
    simp only [b2]
    split
    next ht =>
      by_cases hm : b2 S pit r1 c n ≤ S 5 4 + wr S (n : Nat) pit + r1 ((n : Nat) + 1)
      · rw [Int.min_eq_left hm]
        rcases ih with h | ⟨i, h1, h2, h3⟩
        · exact Or.inl h
        · exact Or.inr ⟨i, by omega, h2, h3⟩
      · rw [Int.min_eq_right (by omega)]
        exact Or.inr ⟨n, by omega, ht, rfl⟩
    next ht =>
      rw [Int.min_eq_left (by omega)]
      rcases ih with h | ⟨i, h1, h2, h3⟩
      · exact Or.inl h
      · exact Or.inr ⟨i, by omega, h2, h3⟩
theorem bM_le (S : Sc) (pit : Int) (r1 : Int → Int) (j : Int) : bM S pit r1 j ≤ S 5 1 + r1 j := by
  unfold bM
  have h1 := b2_le S pit r1 (b1 S pit r1 (nx S (j - 1)) (S 5 1 + r1 j)) (S 0 0).toNat
  have h2 := b1_le S pit r1 (nx S (j - 1)) (S 5 1 + r1 j)
  omega
theorem bM_nn {S : Sc} (hS : okSc S) {pit : Int} {r1 : Int → Int} (hr : ∀ j, pn S j → 0 ≤ r1 j ∧ r1 j ≤ 200000) {j : Int} (hj : pn S j) : 0 ≤ bM S pit r1 j := by
  have hNV : NV = 1000000000 := rfl
  have hc := hS.2.2.2.2.2.2.2.1
  have c1 := hc 1 (by omega) (by omega)
  have c4 := hc 4 (by omega) (by omega)
  have h0 := hr j hj
  have hle := b1_le S pit r1 (nx S (j - 1)) (S 5 1 + r1 j)
  unfold bM
  rcases b2_of S pit r1 (c := b1 S pit r1 (nx S (j - 1)) (S 5 1 + r1 j)) (by omega) (S 0 0).toNat with h | ⟨i, h1, h2, h3⟩
  · rw [h]
    rcases b1_of S pit r1 (nx S (j - 1)) (S 5 1 + r1 j) with h | ⟨q, hq, h⟩
    · omega
    · have hm := nx_mem hS hq
      have hw := wr_in hS q.1 pit
      have h5 := hr (q.1 + 1) ⟨by omega, by omega⟩
      omega
  · have hw := wr_in hS (i : Nat) pit
    have h5 := hr ((i : Nat) + 1) ⟨by omega, by omega⟩
    omega
theorem model_rs1 {S : Sc} (hS : okSc S) (hnn : 0 < S 0 0) {hp : Int → Int} {R : Int → Int → Int} {e : Int} {r1 b : Int → Int} (hR1 : ∀ p, vp S p → R (e + 1) p = r1 (p + 1)) (hr1 : ∀ j, pn S j → 0 ≤ r1 j ∧ r1 j ≤ 200000) (hb : ∀ j, pn S j → b j = bM S (hp e) r1 j)
    (hR0 : ∀ p, vp S p → R e p = rep ((Ew S).map (bk S)) 61 b (p + 1)) : ∀ p, vp S p → rs1 S hp R e p := by
  have hNV : NV = 1000000000 := rfl
  have c1 := hS.2.2.2.2.2.2.2.1 1 (by omega) (by omega)
  refine row_rs1 hS hnn (bkE_ok hS (fun f hf => hf)) ?_ ?_ rfl hR0 hR1 (fun p hv => by have := hr1 (p + 1) (vp_pn hS hv); omega) ?_ ?_ ?_ ?_
  · intro p q hv hq
    exact List.mem_map.mpr ⟨(p, q.1, q.2), Eu_sub S _ _ (El_in hS hv hq), rfl⟩
  · intro f hf hv
    obtain ⟨g, hg, rfl⟩ := List.mem_map.mp hf
    have := Ew_mem hS hg
    exact ⟨(g.2.1, g.2.2), this.2.2.2.2, rfl⟩
  · intro p hv
    rw [hb _ (vp_pn hS hv)]
    exact bM_le S (hp e) r1 (p + 1)
  · intro p q hv hq
    rw [hb _ (vp_pn hS hv)]
    unfold bM
    rw [show p + 1 - 1 = p by omega]
    have h1 := b2_le S (hp e) r1 (b1 S (hp e) r1 (nx S p) (S 5 1 + r1 (p + 1))) (S 0 0).toNat
    have h2 := b1_at S (hp e) r1 (nx S p) (S 5 1 + r1 (p + 1)) q hq
    omega
  · intro p n hv hn
    rw [hb _ (vp_pn hS hv)]
    unfold bM
    have h1 := b2_at S (hp e) r1 (b1 S (hp e) r1 (nx S (p + 1 - 1)) (S 5 1 + r1 (p + 1))) (S 0 0).toNat n.toNat (by omega) (by rw [show ((n.toNat : Nat) : Int) = n by omega]; exact hn)
    rw [show ((n.toNat : Nat) : Int) = n by omega] at h1
    exact h1
  · intro p hv
    rw [hb _ (vp_pn hS hv)]
    unfold bM
    rw [show p + 1 - 1 = p by omega]
    have h0 := hr1 (p + 1) (vp_pn hS hv)
    have hle := b1_le S (hp e) r1 (nx S p) (S 5 1 + r1 (p + 1))
    rcases b2_of S (hp e) r1 (c := b1 S (hp e) r1 (nx S p) (S 5 1 + r1 (p + 1))) (by omega) (S 0 0).toNat with h | ⟨i, h1, h2, h3⟩
    · rw [h]
      rcases b1_of S (hp e) r1 (nx S p) (S 5 1 + r1 (p + 1)) with h | ⟨q, hq, h⟩
      · exact Or.inl h
      · exact Or.inr (Or.inl ⟨q, hq, h⟩)
    · exact Or.inr (Or.inr ⟨(i : Nat), h2, h3⟩)
def Bp (S : Sc) (p : Int) : List Eg := ((nx S p).map (fun q => (p, q.1, q.2))).map (bk S)
theorem Bp_len (S : Sc) (p : Int) : (Bp S p).length = (nx S p).length := by simp [Bp]
theorem Bp_get {S : Sc} {p : Int} {i : Nat} {y w : Int} (h : (nx S p)[i]? = some (y, w)) : (Bp S p)[i]? = some (y, p, w + S 5 2) := by
  unfold Bp
  rw [List.getElem?_map, List.getElem?_map, h]
  rfl
theorem Ev_mapB (S : Sc) (n : Nat) : (Ev S (n + 1)).map (bk S) = (Ev S n).map (bk S) ++ Bp S ((n : Int) - 1) := by
  simp only [Ev, List.map_append]
  rfl
/-- edges of this kind lead from place to place, and cost -/
def okB (S : Sc) (E : List Eg) : Prop := ∀ e ∈ E, pn S (e.1 + 1) ∧ pn S (e.2.1 + 1) ∧ 0 ≤ e.2.2
theorem okB_Ev {S : Sc} (hS : okSc S) {n : Nat} (hn : n ≤ (S 0 0).toNat + 1) : okB S ((Ev S n).map (bk S)) := by
  intro e he
  obtain ⟨f, hf, rfl⟩ := List.mem_map.mp he
  have h := Ew_mem hS (Ev_Ew hn f hf)
  have h0 := hS.1
  have h2 := hS.2.2.2.2.2.2.2.2.2
  simp only [bk]
  exact ⟨⟨by omega, by omega⟩, ⟨by omega, by omega⟩, by omega⟩
theorem okB_app {S : Sc} {A B : List Eg} (h1 : okB S A) (h2 : okB S B) : okB S (A ++ B) := fun e he => by
  rcases List.mem_append.mp he with h | h
  · exact h1 e h
  · exact h2 e h
theorem okB_take {S : Sc} {A : List Eg} (h : okB S A) (i : Nat) : okB S (A.take i) := fun e he => h e (List.mem_of_mem_take he)
theorem rnd_b {S : Sc} {E : List Eg} (hE : okB S E) {c : Int → Int} {B : Int} (hc : ∀ j, pn S j → 0 ≤ c j ∧ c j ≤ B) : ∀ j, pn S j → 0 ≤ rnd E c j ∧ rnd E c j ≤ B := by
  intro j hj
  have h1 := rep_nn (P := pn S) (E := E) (fun e he => (hE e he).2.2) (fun e he => (hE e he).1) 1 c (fun j hj => (hc j hj).1) j hj
  have h2 := rnd_le E c j
  have h3 := hc j hj
  exact ⟨h1, by omega⟩
theorem rep_b {S : Sc} {E : List Eg} (hE : okB S E) {c : Int → Int} {B : Int} (hc : ∀ j, pn S j → 0 ≤ c j ∧ c j ≤ B) (n : Nat) : ∀ j, pn S j → 0 ≤ rep E n c j ∧ rep E n c j ≤ B := by
  intro j hj
  have h1 := rep_nn (P := pn S) (E := E) (fun e he => (hE e he).2.2) (fun e he => (hE e he).1) n c (fun j hj => (hc j hj).1) j hj
  have h2 := rep_le E n c j
  have h3 := hc j hj
  exact ⟨h1, by omega⟩
theorem fU_self (f : Int → Int) (i : Int) : fU f i (f i) = f := by
  funext j
  unfold fU
  split
  · next h => rw [h]
  · rfl
theorem fU_lo1 {g : Int → Int} {y p w s : Int} (hx : s = g (y + 1) + w) (hlt : s < g (p + 1)) : fU g (p + 1) s = lo1 g (y, p, w) := by
  have h1 : lo1 g (y, p, w) = fun j => if j = p + 1 then g (y + 1) + w else g j := if_pos (by simp only; omega)
  rw [h1, hx]
  rfl
theorem lo1_same {g : Int → Int} {y p w s : Int} (hx : s = g (y + 1) + w) (hlt : ¬ s < g (p + 1)) : lo1 g (y, p, w) = g := if_neg (by simp only; omega)

set_option maxRecDepth 20000 in
set_option maxHeartbeats 2000000 in
theorem left_in {d : Nat} {Q : Option ra_V → ra_M → Prop} {K : Nat → ra_L → List ra_V → ra_M → Prop} (hK : ra_Clo (Ex d) m_X8_left cX8_left Q K) {S : Sc} (hS : okSc S) {M0 : ra_M} {p e : Int} (hp : -1 ≤ p ∧ p < S 0 0) (he : 0 ≤ e ∧ e ≤ 120) {F : List Eg} {c : Int → Int} (hFE : okB S F) (hBE : okB S (Bp S p)) (hc : ∀ j, pn S j → 0 ≤ c j ∧ c j ≤ 200000)
    (hX : ∀ (M : ra_M) (z : Int), r49 M e = rnd (F ++ Bp S p) c → flg z (F ++ Bp S p) c → scM M = S → off9 e M0 M → frM [47, 48, 49] [25] M0 M → ∀ i, K 365 [some (vR 32), some (vI e), some (vI z), some (vI p), some (vI i), none] [] M) :
    ∀ (n i : Nat) (M : ra_M) (z : Int), i + n = (nx S p).length → scM M = S → NxM M (nx S p) → r49 M e = rnd (F ++ (Bp S p).take i) c → flg z (F ++ (Bp S p).take i) c → off9 e M0 M → frM [47, 48, 49] [25] M0 M → K 249 [some (vR 32), some (vI e), some (vI z), some (vI p), some (vI (i : Nat)), none] [] M := by
  have hs0 := hS.1
  have hnl := nx_len hS p
  intro n
  induction n with
  | zero =>
    intro i M z hi hs hn hre hfl ho hf
    have en := hn.1
    refine k_il hK (q := 251)  dX8_left_249 rfl (z := (i : Nat)) rfl (k_aln hK (q := 252)  dX8_left_251 rfl (z := 32) rfl (k_gI hK (q := 255) (z := M 32 25) 0 dX8_left_252 rfl rf_X8_112 rfl rfl rfl rfl ?_))
    refine k_cge hK (q := 258) (t := 365) dX8_left_255 rfl rfl (fun h255 => ?_) (fun h255 => ?_)
    · have htk : (Bp S p).take i = Bp S p := List.take_of_length_le (by rw [Bp_len]; omega)
      rw [htk] at hre hfl
      exact hX M z hre hfl hs ho hf _
    · exact absurd h255 (by omega)
  | succ n ih =>
    intro i M z hi hs hn hre hfl ho hf
    have en := hn.1
    have hz01 := flg_01 hfl
    obtain ⟨a2, a3, a4, a5, a6⟩ := scM_a hs
    have hc2 := hS.2.2.2.2.2.2.2.1 2 (by omega) (by omega)
    obtain ⟨⟨y, w⟩, hey⟩ : ∃ q, (nx S p)[i]? = some q := ⟨_, List.getElem?_eq_getElem (by omega)⟩
    obtain ⟨g47, g48⟩ := hn.2 i _ hey
    have hm := nx_mem hS (List.mem_of_getElem? hey)
    simp only at g47 g48 hm
    have hy := thr_lt hS hm.1
    have hcb := rnd_b (okB_app hFE (okB_take hBE i)) hc
    have hcy : r49 M e (y + 1) = M 49 (e * 61 + y + 1) := by unfold r49; rw [show e * 61 + (y + 1) = e * 61 + y + 1 by omega]
    have hcp : r49 M e (p + 1) = M 49 (e * 61 + p + 1) := by unfold r49; rw [show e * 61 + (p + 1) = e * 61 + p + 1 by omega]
    have hx1 := hcb (p + 1) ⟨by omega, by omega⟩
    have hy1 := hcb (y + 1) ⟨by omega, by omega⟩
    rw [← hre, hcp] at hx1
    rw [← hre, hcy] at hy1
    have e2 : M 39 2 = S 5 2 := by rw [a6]
    have hGt : (Bp S p).take (i + 1) = (Bp S p).take i ++ [(y, p, w + S 5 2)] := by rw [List.take_succ, Bp_get hey]; rfl
    have hstep : rnd (F ++ (Bp S p).take (i + 1)) c = lo1 (rnd (F ++ (Bp S p).take i) c) (y, p, w + S 5 2) := by
      rw [hGt, ← List.append_assoc, rnd_app]
      rfl
    have hlo1 : ∀ g : Int → Int, rnd [(y, p, w + S 5 2)] g = lo1 g (y, p, w + S 5 2) := fun _ => rfl
    refine k_il hK (q := 251)  dX8_left_249 rfl (z := (i : Nat)) rfl (k_aln hK (q := 252)  dX8_left_251 rfl (z := 32) rfl (k_gI hK (q := 255) (z := M 32 25) 0 dX8_left_252 rfl rf_X8_112 rfl rfl rfl rfl ?_))
    refine k_cge hK (q := 258) (t := 365) dX8_left_255 rfl rfl (fun h255 => ?_) (fun h255 => ?_)
    · exact absurd h255 (by omega)
    · refine k_aln hK (q := 259)  dX8_left_258 rfl (z := 32) rfl (k_gR hK (q := 262) (r := 48) dX8_left_259 rfl rf_X8_62 rfl rfl (k_il hK (q := 264)  dX8_left_262 rfl (z := (i : Nat)) rfl (k_ald hK (q := 265)  dX8_left_264 rfl (y := M 48 (i : Nat)) rfl (by omega) rfl ?_)))
      rw [g48]
      refine k_aln hK (q := 266)  dX8_left_265 rfl (z := 32) rfl (k_gR hK (q := 269) (r := 39) dX8_left_266 rfl rf_X8_35 rfl rfl (k_ic hK (q := 270)  dX8_left_269 rfl (by decide) (k_ald hK (q := 271)  dX8_left_270 rfl (y := M 39 2) rfl (by omega) rfl (k_add hK (q := 272)  dX8_left_271 rfl (z := w + (M 39 2)) rfl (by omega) (k_aln hK (q := 273)  dX8_left_272 rfl (z := 32) rfl ?_)))))
      refine k_gR hK (q := 276) (r := 49) dX8_left_273 rfl rf_X8_65 rfl rfl (k_aln hK (q := 277)  dX8_left_276 rfl (z := 32) rfl (k_iln hK (q := 278)  dX8_left_277 rfl (z := e) rfl (k_aln hK (q := 279)  dX8_left_278 rfl (z := 32) rfl (k_gR hK (q := 282) (r := 47) dX8_left_279 rfl rf_X8_59 rfl rfl (k_il hK (q := 284)  dX8_left_282 rfl (z := (i : Nat)) rfl ?_)))))
      refine k_ald hK (q := 285)  dX8_left_284 rfl (y := M 47 (i : Nat)) rfl (by omega) rfl ?_
      rw [g47]
      refine k_iv2I hK (q := 288) dX8_left_285 rfl rm_X8_165 rfl rfl (Nat.le_of_ble_eq_true rfl) (xm_at _ M e y (by omega) (by omega)) ?_
      refine k_ald hK (q := 289)  dX8_left_288 rfl (y := M 49 (e * 61 + y + 1)) rfl (by omega) rfl (k_add hK (q := 290)  dX8_left_289 rfl (z := (w + (M 39 2)) + (M 49 (e * 61 + y + 1))) rfl (by omega) (k_is hK (q := 292)  dX8_left_290 rfl (L2 := [some (vR 32), some (vI e), some (vI z), some (vI p), some (vI (i : Nat)), some (vI ((w + (M 39 2)) + (M 49 (e * 61 + y + 1))))]) (Nat.le_of_ble_eq_true rfl) rfl (k_iln hK (q := 293)  dX8_left_292 rfl (z := z) rfl (k_il hK (q := 295)  dX8_left_293 rfl (z := ((w + (M 39 2)) + (M 49 (e * 61 + y + 1)))) rfl (k_aln hK (q := 296)  dX8_left_295 rfl (z := 32) rfl ?_)))))
      refine k_gR hK (q := 299) (r := 49) dX8_left_296 rfl rf_X8_65 rfl rfl (k_aln hK (q := 300)  dX8_left_299 rfl (z := 32) rfl (k_iln hK (q := 301)  dX8_left_300 rfl (z := e) rfl (k_iln hK (q := 302)  dX8_left_301 rfl (z := p) rfl ?_)))
      refine k_iv2I hK (q := 305) dX8_left_302 rfl rm_X8_165 rfl rfl (Nat.le_of_ble_eq_true rfl) (xm_at _ M e p (by omega) (by omega)) ?_
      refine k_ald hK (q := 306)  dX8_left_305 rfl (y := M 49 (e * 61 + p + 1)) rfl (by omega) rfl ?_
      refine k_cge hK (q := 309) (t := 313) dX8_left_306 rfl rfl (fun h306 => ?_) (fun h306 => ?_)
      · refine k_ic hK (q := 314)  dX8_left_313 rfl (by decide) (k_or hK (q := 315)  dX8_left_314 rfl (z := z) (m := z.toNat) (n := 0) (by omega) rfl (by rcases hz01 with h | h <;> subst h <;> rfl) (k_isn hK (q := 316)  dX8_left_315 rfl (L2 := [some (vR 32), some (vI e), some (vI z), some (vI p), some (vI (i : Nat)), some (vI ((w + (M 39 2)) + (M 49 (e * 61 + y + 1))))]) (Nat.le_of_ble_eq_true rfl) rfl (k_aln hK (q := 317)  dX8_left_316 rfl (z := 32) rfl (k_gR hK (q := 320) (r := 49) dX8_left_317 rfl rf_X8_65 rfl rfl (k_aln hK (q := 321)  dX8_left_320 rfl (z := 32) rfl ?_)))))
        refine k_iln hK (q := 322)  dX8_left_321 rfl (z := e) rfl (k_iln hK (q := 323)  dX8_left_322 rfl (z := p) rfl ?_)
        refine k_iv2I hK (q := 326) dX8_left_323 rfl rm_X8_165 rfl rfl (Nat.le_of_ble_eq_true rfl) (xm_at _ M e p (by omega) (by omega)) ?_
        refine k_il hK (q := 328)  dX8_left_326 rfl (z := ((w + (M 39 2)) + (M 49 (e * 61 + y + 1)))) rfl (k_aln hK (q := 329)  dX8_left_328 rfl (z := 32) rfl (k_gR hK (q := 332) (r := 49) dX8_left_329 rfl rf_X8_65 rfl rfl (k_aln hK (q := 333)  dX8_left_332 rfl (z := 32) rfl (k_iln hK (q := 334)  dX8_left_333 rfl (z := e) rfl (k_iln hK (q := 335)  dX8_left_334 rfl (z := p) rfl ?_)))))
        refine k_iv2I hK (q := 338) dX8_left_335 rfl rm_X8_165 rfl rfl (Nat.le_of_ble_eq_true rfl) (xm_at _ M e p (by omega) (by omega)) ?_
        refine k_ald hK (q := 339)  dX8_left_338 rfl (y := M 49 (e * 61 + p + 1)) rfl (by omega) rfl ?_
        refine k_cge hK (q := 342) (t := 347) dX8_left_339 rfl rfl (fun h339 => ?_) (fun h339 => ?_)
        · skip
          refine k_aln hK (q := 348)  dX8_left_347 rfl (z := 32) rfl (k_gR hK (q := 351) (r := 49) dX8_left_348 rfl rf_X8_65 rfl rfl (k_aln hK (q := 352)  dX8_left_351 rfl (z := 32) rfl (k_iln hK (q := 353)  dX8_left_352 rfl (z := e) rfl (k_iln hK (q := 354)  dX8_left_353 rfl (z := p) rfl ?_))))
          refine k_iv2I hK (q := 357) dX8_left_354 rfl rm_X8_165 rfl rfl (Nat.le_of_ble_eq_true rfl) (xm_at _ M e p (by omega) (by omega)) ?_
          refine k_ald hK (q := 358)  dX8_left_357 rfl (y := M 49 (e * 61 + p + 1)) rfl (by omega) rfl (k_ast hK (q := 359)  dX8_left_358 rfl rfl (by omega) (k_inc hK (q := 362)  dX8_left_359 rfl (y := (i : Nat) + 1) (L2 := [some (vR 32), some (vI e), some (vI z), some (vI p), some (vI ((i : Nat) + 1)), some (vI ((w + (M 39 2)) + (M 49 (e * 61 + y + 1))))]) rfl rfl (by omega) rfl (k_goto hK (t := 249) dX8_left_362 rfl ?_)))
          refine k_weak hK (L2 := [some (vR 32), some (vI e), some (vI z), some (vI p), some (vI ((i : Nat) + 1)), none]) ⟨Or.inl rfl, Or.inl rfl, Or.inl rfl, Or.inl rfl, Or.inl rfl, Or.inr rfl, trivial⟩ ?_
          refine ih (i + 1) _ z (by omega) (by rw [scM_fr (M := M) (frM_up (frM_refl [49] [] _) _ _ (by decide) (by decide)) (by decide) (by decide)]; exact hs) (NxM_f hn (by rw [up_k _ _ _ (by decide)]) (up_k _ _ _ (by decide)) (up_k _ _ _ (by decide))) ?_ ?_ (off9_up ho (by omega)) (frM_up hf _ _ (by decide) (by decide))
          · rw [hstep, r49_up, ← hcp, fU_self, hre, lo1_same (s := w + M 39 2 + M 49 (e * 61 + y + 1)) (by rw [← hre, hcy]; omega) (by rw [← hre, hcp]; omega)]
          · have := flg_more (G := [(y, p, w + S 5 2)]) hfl (by rw [hlo1, lo1_same (s := w + M 39 2 + M 49 (e * 61 + y + 1)) (by rw [← hre, hcy]; omega) (by rw [← hre, hcp]; omega)])
            rw [List.append_assoc, ← hGt] at this
            exact this
        · exact absurd h339 (by omega)
      · refine k_ic hK (q := 310)  dX8_left_309 rfl (by decide) (k_goto hK (t := 314) dX8_left_310 rfl (k_or hK (q := 315)  dX8_left_314 rfl (z := 1) (m := z.toNat) (n := 1) (by omega) rfl (by rcases hz01 with h | h <;> subst h <;> rfl) (k_isn hK (q := 316)  dX8_left_315 rfl (L2 := [some (vR 32), some (vI e), some (vI 1), some (vI p), some (vI (i : Nat)), some (vI ((w + (M 39 2)) + (M 49 (e * 61 + y + 1))))]) (Nat.le_of_ble_eq_true rfl) rfl (k_aln hK (q := 317)  dX8_left_316 rfl (z := 32) rfl (k_gR hK (q := 320) (r := 49) dX8_left_317 rfl rf_X8_65 rfl rfl ?_)))))
        refine k_aln hK (q := 321)  dX8_left_320 rfl (z := 32) rfl (k_iln hK (q := 322)  dX8_left_321 rfl (z := e) rfl (k_iln hK (q := 323)  dX8_left_322 rfl (z := p) rfl ?_))
        refine k_iv2I hK (q := 326) dX8_left_323 rfl rm_X8_165 rfl rfl (Nat.le_of_ble_eq_true rfl) (xm_at _ M e p (by omega) (by omega)) ?_
        refine k_il hK (q := 328)  dX8_left_326 rfl (z := ((w + (M 39 2)) + (M 49 (e * 61 + y + 1)))) rfl (k_aln hK (q := 329)  dX8_left_328 rfl (z := 32) rfl (k_gR hK (q := 332) (r := 49) dX8_left_329 rfl rf_X8_65 rfl rfl (k_aln hK (q := 333)  dX8_left_332 rfl (z := 32) rfl (k_iln hK (q := 334)  dX8_left_333 rfl (z := e) rfl (k_iln hK (q := 335)  dX8_left_334 rfl (z := p) rfl ?_)))))
        refine k_iv2I hK (q := 338) dX8_left_335 rfl rm_X8_165 rfl rfl (Nat.le_of_ble_eq_true rfl) (xm_at _ M e p (by omega) (by omega)) ?_
        refine k_ald hK (q := 339)  dX8_left_338 rfl (y := M 49 (e * 61 + p + 1)) rfl (by omega) rfl ?_
        refine k_cge hK (q := 342) (t := 347) dX8_left_339 rfl rfl (fun h339 => ?_) (fun h339 => ?_)
        · exact absurd h339 (by omega)
        · skip
          refine k_il hK (q := 344)  dX8_left_342 rfl (z := ((w + (M 39 2)) + (M 49 (e * 61 + y + 1)))) rfl (k_goto hK (t := 358) dX8_left_344 rfl (k_ast hK (q := 359)  dX8_left_358 rfl rfl (by omega) (k_inc hK (q := 362)  dX8_left_359 rfl (y := (i : Nat) + 1) (L2 := [some (vR 32), some (vI e), some (vI 1), some (vI p), some (vI ((i : Nat) + 1)), some (vI ((w + (M 39 2)) + (M 49 (e * 61 + y + 1))))]) rfl rfl (by omega) rfl (k_goto hK (t := 249) dX8_left_362 rfl ?_))))
          refine k_weak hK (L2 := [some (vR 32), some (vI e), some (vI 1), some (vI p), some (vI ((i : Nat) + 1)), none]) ⟨Or.inl rfl, Or.inl rfl, Or.inl rfl, Or.inl rfl, Or.inl rfl, Or.inr rfl, trivial⟩ ?_
          refine ih (i + 1) _ 1 (by omega) (by rw [scM_fr (M := M) (frM_up (frM_refl [49] [] _) _ _ (by decide) (by decide)) (by decide) (by decide)]; exact hs) (NxM_f hn (by rw [up_k _ _ _ (by decide)]) (up_k _ _ _ (by decide)) (up_k _ _ _ (by decide))) ?_ ?_ (off9_up ho (by omega)) (frM_up hf _ _ (by decide) (by decide))
          · rw [hstep, r49_up, hre]
            exact fU_lo1 (by rw [← hre, hcy]; omega) (by rw [← hre, hcp]; omega)
          · have := flg_low (G := [(y, p, w + S 5 2)]) (j := p + 1) hfl (by rw [hlo1, ← fU_lo1 (s := w + M 39 2 + M 49 (e * 61 + y + 1)) (by rw [← hre, hcy]; omega) (by rw [← hre, hcp]; omega), fU_same, ← hre, hcp]; omega)
            rw [List.append_assoc, ← hGt] at this
            exact this

set_option maxRecDepth 20000 in
set_option maxHeartbeats 2000000 in
theorem left_out {d : Nat} {Q : Option ra_V → ra_M → Prop} {K : Nat → ra_L → List ra_V → ra_M → Prop} (hK : ra_Clo (Ex (d + 1)) m_X8_left cX8_left Q K) {S : Sc} (hS : okSc S) {M0 : ra_M} {e : Int} (he : 0 ≤ e ∧ e ≤ 120) {c : Int → Int} (hc : ∀ j, pn S j → 0 ≤ c j ∧ c j ≤ 200000)
    (hX : ∀ (M : ra_M) (z : Int), r49 M e = rnd ((Ew S).map (bk S)) c → flg z ((Ew S).map (bk S)) c → scM M = S → off9 e M0 M → frM [47, 48, 49] [25] M0 M → K 225 [some (vR 32), some (vI e), some (vI z), none, none, none] [] M) :
    ∀ (m n : Nat) (M : ra_M) (z : Int), n + m = (S 0 0).toNat + 1 → scM M = S → r49 M e = rnd ((Ev S n).map (bk S)) c → flg z ((Ev S n).map (bk S)) c → off9 e M0 M → frM [47, 48, 49] [25] M0 M → K 233 [some (vR 32), some (vI e), some (vI z), some (vI (((n : Nat) : Int) - 1)), none, none] [] M := by
  have hs0 := hS.1
  intro m
  induction m with
  | zero =>
    intro n M z hn hs hre hfl ho hf
    obtain ⟨e5, e6, e7, e8, e9⟩ := scM_e hs
    refine k_iln hK (q := 234)  dX8_left_233 rfl (z := (((n : Nat) : Int) - 1)) rfl (k_aln hK (q := 235)  dX8_left_234 rfl (z := 32) rfl (k_gI hK (q := 238) (z := M 32 4) 0 dX8_left_235 rfl rf_X8_86 rfl rfl rfl rfl ?_))
    refine k_cge hK (q := 241) (t := 371) dX8_left_238 rfl rfl (fun h238 => ?_) (fun h238 => ?_)
    · refine k_goto hK (t := 225) dX8_left_371 rfl ?_
      refine k_weak hK (L2 := [some (vR 32), some (vI e), some (vI z), none, none, none]) ⟨Or.inl rfl, Or.inl rfl, Or.inl rfl, Or.inr rfl, Or.inl rfl, Or.inl rfl, trivial⟩ ?_
      have hn2 : n = (S 0 0).toNat + 1 := by omega
      subst hn2
      exact hX M z hre hfl hs ho hf
    · exact absurd h238 (by omega)
  | succ m ih =>
    intro n M z hn hs hre hfl ho hf
    obtain ⟨e5, e6, e7, e8, e9⟩ := scM_e hs
    refine k_iln hK (q := 234)  dX8_left_233 rfl (z := (((n : Nat) : Int) - 1)) rfl (k_aln hK (q := 235)  dX8_left_234 rfl (z := 32) rfl (k_gI hK (q := 238) (z := M 32 4) 0 dX8_left_235 rfl rf_X8_86 rfl rfl rfl rfl ?_))
    refine k_cge hK (q := 241) (t := 371) dX8_left_238 rfl rfl (fun h238 => ?_) (fun h238 => ?_)
    · exact absurd h238 (by omega)
    · refine k_aln hK (q := 242)  dX8_left_241 rfl (z := 32) rfl (k_iln hK (q := 243)  dX8_left_242 rfl (z := (((n : Nat) : Int) - 1)) rfl ?_)
      refine k_iv1 hK (q := 246) dX8_left_243 rfl rm_X8_146 rfl rfl (Nat.le_of_ble_eq_true rfl) (xm_nextsOf _ M (((n : Nat) : Int) - 1) S hs hS (by omega)) (fun r9 M5 h9 => ?_)
      obtain ⟨rfl, hn5, hf5⟩ := h9
      have q49 : M5 49 = M 49 := hf5.1 49 (by decide) (by decide)
      show K 246 [some (vR 32), some (vI e), some (vI z), some (vI (((n : Nat) : Int) - 1)), none, none] [] M5
      refine k_ic hK (q := 247)  dX8_left_246 rfl (by decide) (k_is hK (q := 249)  dX8_left_247 rfl (L2 := [some (vR 32), some (vI e), some (vI z), some (vI (((n : Nat) : Int) - 1)), some (vI 0), none]) (Nat.le_of_ble_eq_true rfl) rfl ?_)
      refine left_in hK hS (M0 := M0) (p := ((n : Nat) : Int) - 1) (by omega) he (F := (Ev S n).map (bk S)) (okB_Ev hS (by omega)) ?_ hc (fun M6 z2 hre6 hfl6 hs6 ho6 hf6 i2 => ?_) (nx S (((n : Nat) : Int) - 1)).length 0 M5 z (by omega) (by rw [scM_fr hf5 (by decide) (by decide)]; exact hs) hn5 ?_ ?_ (off9_eq ho q49) (frM_trans hf (frM_sub hf5 (by decide) (by decide)))
      · intro x hx
        exact okB_Ev hS (n := n + 1) (by omega) x (by rw [Ev_mapB]; exact List.mem_append.mpr (Or.inr hx))
      · skip
        refine k_inc hK (q := 368)  dX8_left_365 rfl (y := (((n : Nat) : Int) - 1) + 1) (L2 := [some (vR 32), some (vI e), some (vI z2), some (vI ((((n : Nat) : Int) - 1) + 1)), some (vI i2), none]) rfl rfl (by omega) rfl (k_goto hK (t := 233) dX8_left_368 rfl ?_)
        refine k_weak hK (L2 := [some (vR 32), some (vI e), some (vI z2), some (vI ((((n : Nat) : Int) - 1) + 1)), none, none]) ⟨Or.inl rfl, Or.inl rfl, Or.inl rfl, Or.inl rfl, Or.inr rfl, Or.inl rfl, trivial⟩ ?_
        have hp9 : ((n : Nat) : Int) - 1 + 1 = ((n + 1 : Nat) : Int) - 1 := by omega
        rw [hp9]
        exact ih (n + 1) M6 z2 (by omega) hs6 (by rw [Ev_mapB]; exact hre6) (by rw [Ev_mapB]; exact hfl6) ho6 hf6
      · unfold r49 at hre ⊢
        rw [q49]
        simpa using hre
      · simpa using hfl

set_option maxRecDepth 20000 in
set_option maxHeartbeats 2000000 in
theorem left_while {d : Nat} {Q : Option ra_V → ra_M → Prop} {K : Nat → ra_L → List ra_V → ra_M → Prop} (hK : ra_Clo (Ex (d + 1)) m_X8_left cX8_left Q K) {S : Sc} (hS : okSc S) {M : ra_M} (hs : scM M = S) {e : Int} (he : 0 ≤ e ∧ e ≤ 120) {b : Int → Int} (hb : ∀ j, pn S j → 0 ≤ b j ∧ b j ≤ 200000) (hre : r49 M e = b)
    (hQ : ∀ (M1 : ra_M), r49 M1 e = rep ((Ew S).map (bk S)) 61 b → off9 e M M1 → frM [47, 48, 49] [25] M M1 → Q none M1) : ∀ z, K 223 [some (vR 32), some (vI e), some (vI z), none, none, none] [] M := by
  have hok := bkE_ok hS (E := Ew S) (fun f hf => hf)
  have JX : ∀ M1 : ra_M, r49 M1 e = rep ((Ew S).map (bk S)) 61 b → off9 e M M1 → frM [47, 48, 49] [25] M M1 → K 225 [some (vR 32), some (vI e), some (vI 0), none, none, none] [] M1 := by
    intro M1 h1 h2 h3
    refine k_iln hK (q := 226)  dX8_left_225 rfl (z := 0) rfl ?_
    refine k_ifeq hK (q := 229) (t := 374) dX8_left_226 rfl rfl (fun _ => ?_) (fun h226 => absurd h226 (by decide))
    refine k_vr hK dX8_left_374 rfl ?_
    exact hQ M1 h1 h2 h3
  have JW : ∀ (n r : Nat) (M1 : ra_M), r + n = 61 → scM M1 = S → r49 M1 e = rep ((Ew S).map (bk S)) r b → off9 e M M1 → frM [47, 48, 49] [25] M M1 → K 225 [some (vR 32), some (vI e), some (vI 1), none, none, none] [] M1 := by
    intro n
    induction n with
    | zero =>
      intro r M1 hr hs1 h1 ho1 hf1
      have hr61 : r = 61 := by omega
      refine k_iln hK (q := 226)  dX8_left_225 rfl (z := 1) rfl ?_
      refine k_ifeq hK (q := 229) (t := 374) dX8_left_226 rfl rfl (fun h226 => absurd h226 (by decide)) (fun _ => ?_)
      refine k_ic hK (q := 230)  dX8_left_229 rfl (by decide) (k_isn hK (q := 231)  dX8_left_230 rfl (L2 := [some (vR 32), some (vI e), some (vI 0), none, none, none]) (Nat.le_of_ble_eq_true rfl) rfl (k_ic hK (q := 232)  dX8_left_231 rfl (by decide) (k_isn hK (q := 233)  dX8_left_232 rfl (L2 := [some (vR 32), some (vI e), some (vI 0), some (vI (-1)), none, none]) (Nat.le_of_ble_eq_true rfl) rfl ?_)))
      refine left_out hK hS (M0 := M) he (c := rep ((Ew S).map (bk S)) r b) (rep_b (okB_Ev hS (Nat.le_refl _)) hb r) (fun M6 z h3 h4 h5 h6 h7 => ?_) ((S 0 0).toNat + 1) 0 M1 0 (by omega) hs1 h1 (Or.inl ⟨rfl, rfl⟩) ho1 hf1
      rcases h4 with ⟨hz, hf4⟩ | ⟨hz, j, hj⟩
      · subst hz
        rw [hf4, bf_any hok b hf4] at h3
        exact JX M6 h3 h6 h7
      · subst hr61
        rw [bf_61 hok b] at hj
        omega
    | succ n ih =>
      intro r M1 hr hs1 h1 ho1 hf1
      refine k_iln hK (q := 226)  dX8_left_225 rfl (z := 1) rfl ?_
      refine k_ifeq hK (q := 229) (t := 374) dX8_left_226 rfl rfl (fun h226 => absurd h226 (by decide)) (fun _ => ?_)
      refine k_ic hK (q := 230)  dX8_left_229 rfl (by decide) (k_isn hK (q := 231)  dX8_left_230 rfl (L2 := [some (vR 32), some (vI e), some (vI 0), none, none, none]) (Nat.le_of_ble_eq_true rfl) rfl (k_ic hK (q := 232)  dX8_left_231 rfl (by decide) (k_isn hK (q := 233)  dX8_left_232 rfl (L2 := [some (vR 32), some (vI e), some (vI 0), some (vI (-1)), none, none]) (Nat.le_of_ble_eq_true rfl) rfl ?_)))
      refine left_out hK hS (M0 := M) he (c := rep ((Ew S).map (bk S)) r b) (rep_b (okB_Ev hS (Nat.le_refl _)) hb r) (fun M6 z h3 h4 h5 h6 h7 => ?_) ((S 0 0).toNat + 1) 0 M1 0 (by omega) hs1 h1 (Or.inl ⟨rfl, rfl⟩) ho1 hf1
      rcases h4 with ⟨hz, hf4⟩ | ⟨hz, j, hj⟩
      · subst hz
        rw [hf4, bf_any hok b hf4] at h3
        exact JX M6 h3 h6 h7
      · subst hz
        rw [← rep_succ] at h3
        exact ih (r + 1) M6 (by omega) h5 h3 h6 h7
  intro z
  refine k_ic hK (q := 224)  dX8_left_223 rfl (by decide) (k_isn hK (q := 225)  dX8_left_224 rfl (L2 := [some (vR 32), some (vI e), some (vI 1), none, none, none]) (Nat.le_of_ble_eq_true rfl) rfl ?_)
  exact JW 61 0 M (by omega) hs hre (fun z hz => rfl) (frM_refl _ _ _)
