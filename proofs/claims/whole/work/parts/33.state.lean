/-! THE STATE, and what each call answers; small methods of the class -/
abbrev Al8 : Type := Option (Int × List St4)
abbrev Stt : Type := Sc × Int × (Int → Int) × (Int → Int) × Int × (Int → Int) × (Int → Int) × Al8
def fU (f : Int → Int) (i v : Int) : Int → Int := fun j => if j = i then v else f j
theorem up_fU (M : ra_M) (k : Nat) (j v : Int) : up M k j v k = fU (M k) j v := by funext x; simp [up, fU]
theorem fU_same (f : Int → Int) (i v : Int) : fU f i v i = v := by simp [fU]
theorem fU_ne (f : Int → Int) {i j : Int} (v : Int) (h : j ≠ i) : fU f i v j = f j := by simp [fU, h]
def AN (S : Sc) (hp : Int → Int) : Nat → An
  | 0 => []
  | k + 1 => lk S hp (AN S hp k) (k : Nat) (FVP S hp (k + 1)).2
theorem okAN (S : Sc) (hp : Int → Int) : ∀ k : Nat, okAn S (k : Nat) (AN S hp k) := by
  intro k
  induction k with
  | zero => exact ⟨fun i q hi => by simp [AN] at hi, fun i j q r _ hi _ => by simp [AN] at hi⟩
  | succ k ih =>
    have h := okAn_lk (hp := hp) (pl := (FVP S hp (k + 1)).2) ih (by omega)
    rw [show (((k + 1 : Nat) : Nat) : Int) = (k : Int) + 1 by omega]
    exact h
theorem FVP_hp {S : Sc} {hp hp2 : Int → Int} : ∀ k : Nat, (∀ i : Nat, i < k → hp (i : Nat) = hp2 (i : Nat)) → FVP S hp k = FVP S hp2 k := by
  intro k
  induction k with
  | zero => intro _; rfl
  | succ k ih =>
    intro h
    simp only [FVP]
    rw [ih (fun i hi => h i (by omega)), h k (by omega)]
theorem AN_hp {S : Sc} {hp hp2 : Int → Int} : ∀ k : Nat, (∀ i : Nat, i < k → hp (i : Nat) = hp2 (i : Nat)) → AN S hp k = AN S hp2 k := by
  intro k
  induction k with
  | zero => intro _; rfl
  | succ k ih =>
    intro h
    simp only [AN]
    rw [ih (fun i hi => h i (by omega)), FVP_hp (k + 1) h]
    unfold lk
    rw [h k (by omega)]
/-- what was heard, and what follows, in the class -/
def FA (S : Sc) (hp : Int → Int) (k : Nat) (M : ra_M) : Prop := (∀ j, pn S j → M 16 j = (FVP S hp k).1 j) ∧ M 15 5 = (FVP S hp k).2
def FlC (S : Sc) (hp : Int → Int) (cnt : Int) (M : ra_M) : Prop := FA S hp cnt.toNat M ∧ (cnt = 0 → ∀ j, 0 ≤ j → j ≤ 60 → M 16 j = v00 j)
def AlC (S : Sc) (hp : Int → Int) (cnt : Int) (al : Al8) (M : ra_M) : Prop := match al with
  | none => M 21 10 = 0
  | some q => M 21 10 = 1 ∧ M 21 11 = q.1 ∧ WS S hp M q.2 cnt ∧ (0 < cnt → TL S hp cnt M q.2)
def IC (S : Sc) (cnt : Int) (hp ht : Int → Int) (ses : Int) (bx du : Int → Int) (al : Al8) (M : ra_M) : Prop :=
  scC M = S ∧ (M 7 2 = cnt ∧ M 8 = hp ∧ M 9 = ht) ∧ (M 29 2 = ses ∧ M 30 = bx ∧ M 31 = du) ∧ (0 < cnt → NxA M S) ∧ FlC S hp cnt M ∧ AnC M (AN S hp cnt.toNat) ∧ AlC S hp cnt al M
def ICs (q : Stt) (M : ra_M) : Prop := IC q.1 q.2.1 q.2.2.1 q.2.2.2.1 q.2.2.2.2.1 q.2.2.2.2.2.1 q.2.2.2.2.2.2.1 q.2.2.2.2.2.2.2 M
/-- THE BEST: the least SUM, and the COURSE that is told -/
def AlS (S : Sc) (hp : Int → Int) (cnt sum : Int) (ls : List St4) : Prop := ∃ R, isR S hp cnt R ∧ ls = wk S hp R cnt 7320 0 (-1) ∧ sum = R 0 (-1)
/-- the state is sound; t calls were made -/
def WF (t : Nat) (S : Sc) (cnt : Int) (hp ht : Int → Int) (ses : Int) (bx : Int → Int) (al : Al8) : Prop :=
  okSc S ∧ (0 ≤ cnt ∧ cnt ≤ 120) ∧ (0 < cnt → 0 < S 0 0) ∧ okH9 ht cnt ∧ (0 ≤ ses ∧ ses ≤ t) ∧ (∀ n, 0 ≤ n → n < 60 → 0 ≤ bx n ∧ bx n ≤ 5) ∧ ∀ q, al = some q → AlS S hp cnt q.1 q.2
def WFs (t : Nat) (q : Stt) : Prop := WF t q.1 q.2.1 q.2.2.1 q.2.2.2.1 q.2.2.2.2.1 q.2.2.2.2.2.1 q.2.2.2.2.2.2.2
def clF (M M2 : ra_M) : Prop := ∀ k, 32 ≤ k → M2 k = M k
def moF (M M2 : ra_M) : Prop := ∀ k, k < 32 → M2 k = M k
theorem clF_refl (M : ra_M) : clF M M := fun _ _ => rfl
theorem clF_up {M M2 : ra_M} (h : clF M M2) {k : Nat} (j v : Int) (hk : k < 32) : clF M (up M2 k j v) := fun k2 h2 => by rw [up_k _ _ _ (by omega)]; exact h k2 h2
theorem clF_X {l : List Nat} {M M2 : ra_M} (h : frX l M M2) (hl : ∀ k ∈ l, k < 32) : clF M M2 := fun k hk => h k (fun q => by have := hl k q; omega)
theorem clF_trans {M M1 M2 : ra_M} (h1 : clF M M1) (h2 : clF M1 M2) : clF M M2 := fun k hk => (h2 k hk).trans (h1 k hk)
/-- what a call ends with: the answer, and the state behind it -/
def PC (M : ra_M) (q : Int × Stt) (r : Option ra_V) (M2 : ra_M) : Prop := r = some (vI q.1) ∧ ICs q.2 M2 ∧ clF M M2
theorem NxA_f {M M2 : ra_M} {S : Sc} {P : Prop} (h : P → NxA M S) (hf : ∀ k, 10 ≤ k → k ≤ 14 → M2 k = M k) : P → NxA M2 S := fun p => NxA_fr (h p) hf
theorem FlC_f {M M2 : ra_M} {S : Sc} {hp : Int → Int} {cnt : Int} (h : FlC S hp cnt M) (h1 : M2 16 = M 16) (h2 : M2 15 5 = M 15 5) : FlC S hp cnt M2 := by
  unfold FlC FA at *
  rw [h1, h2]
  exact h
theorem AnC_f {M M2 : ra_M} {an : An} (h : AnC M an) (h1 : M2 18 4 = M 18 4) (h2 : M2 19 = M 19) (h3 : M2 20 = M 20) : AnC M2 an := by
  unfold AnC at *
  rw [h1, h2, h3]
  exact h
theorem AlC_f {M M2 : ra_M} {S : Sc} {hp : Int → Int} {cnt : Int} {al : Al8} (h : AlC S hp cnt al M) (hf : ∀ k, 22 ≤ k → k ≤ 28 → M2 k = M k) (h21 : ∀ j, j ≤ 12 → M2 21 j = M 21 j) : AlC S hp cnt al M2 := by
  cases al with
  | none => unfold AlC at *; simp only at *; rw [h21 10 (by decide)]; exact h
  | some q =>
    unfold AlC at *
    simp only at *
    rw [h21 10 (by decide), h21 11 (by decide)]
    exact ⟨h.1, h.2.1, WS_fr h.2.2.1 (fun k a b => hf k (by omega) b) (h21 12 (by decide)), fun q => TL_fr (h.2.2.2 q) (hf 22 (by omega) (by omega)) (hf 23 (by omega) (by omega)) (hf 24 (by omega) (by omega))⟩
theorem IC_low {M M2 : ra_M} {q : Stt} (h : ICs q M) (hf : moF M M2) : ICs q M2 := by
  obtain ⟨h1, ⟨h2, h3, h4⟩, ⟨h5, h6, h7⟩, h8, h9, h10, h11⟩ := h
  refine ⟨?_, ⟨?_, ?_, ?_⟩, ⟨?_, ?_, ?_⟩, NxA_f h8 (fun k a b => hf k (by omega)), FlC_f h9 (hf 16 (by omega)) (by rw [hf 15 (by omega)]), AnC_f h10 (by rw [hf 18 (by omega)]) (hf 19 (by omega)) (hf 20 (by omega)), AlC_f h11 (fun k a b => hf k (by omega)) (fun j _ => by rw [hf 21 (by omega)])⟩
  · rw [scC_fr (fun k a b => hf k (by omega))]; exact h1
  · rw [hf 7 (by omega)]; exact h2
  · rw [hf 8 (by omega)]; exact h3
  · rw [hf 9 (by omega)]; exact h4
  · rw [hf 29 (by omega)]; exact h5
  · rw [hf 30 (by omega)]; exact h6
  · rw [hf 31 (by omega)]; exact h7

theorem scC_u0 (M : ra_M) (v : Int) : scC (up M 1 5 v) = up (scC M) 0 0 v := by
  funext k j
  rcases k with _ | _ | _ | _ | _ | _ | k
  · by_cases h : j = 0 <;> simp [scC, up, h]
  all_goals simp [scC, up]
theorem scC_u1 (M : ra_M) (v : Int) : scC (up M 1 6 v) = up (scC M) 0 1 v := by
  funext k j
  rcases k with _ | _ | _ | _ | _ | _ | k
  · by_cases h : j = 1 <;> simp [scC, up, h]
  all_goals simp [scC, up]
theorem scC_u2 (M : ra_M) (v : Int) : scC (up M 1 7 v) = up (scC M) 0 2 v := by
  funext k j
  rcases k with _ | _ | _ | _ | _ | _ | k
  · by_cases h : j = 2 <;> simp [scC, up, h]
  all_goals simp [scC, up]
theorem scC_u3 (M : ra_M) (v : Int) : scC (up M 1 8 v) = up (scC M) 0 3 v := by
  funext k j
  rcases k with _ | _ | _ | _ | _ | _ | k
  · by_cases h : j = 3 <;> simp [scC, up, h]
  all_goals simp [scC, up]
theorem scC_u4 (M : ra_M) (v : Int) : scC (up M 1 9 v) = up (scC M) 0 4 v := by
  funext k j
  rcases k with _ | _ | _ | _ | _ | _ | k
  · by_cases h : j = 4 <;> simp [scC, up, h]
  all_goals simp [scC, up]
theorem scC_a2 (M : ra_M) (i v : Int) : scC (up M 2 i v) = up (scC M) 1 i v := by
  funext k j
  rcases k with _ | _ | _ | _ | _ | _ | k <;> simp [scC, up]
theorem scC_a3 (M : ra_M) (i v : Int) : scC (up M 3 i v) = up (scC M) 2 i v := by
  funext k j
  rcases k with _ | _ | _ | _ | _ | _ | k <;> simp [scC, up]
theorem scC_a4 (M : ra_M) (i v : Int) : scC (up M 4 i v) = up (scC M) 3 i v := by
  funext k j
  rcases k with _ | _ | _ | _ | _ | _ | k <;> simp [scC, up]
theorem scC_a5 (M : ra_M) (i v : Int) : scC (up M 5 i v) = up (scC M) 4 i v := by
  funext k j
  rcases k with _ | _ | _ | _ | _ | _ | k <;> simp [scC, up]
theorem scC_a6 (M : ra_M) (i v : Int) : scC (up M 6 i v) = up (scC M) 5 i v := by
  funext k j
  rcases k with _ | _ | _ | _ | _ | _ | k <;> simp [scC, up]
theorem scC_o (M : ra_M) {k : Nat} (i v : Int) (h : 6 < k) : scC (up M k i v) = scC M := scC_fr (fun k2 a b => by rw [up_k _ _ _ (by omega)])
/-! answers -/
def addN (S : Sc) (p s : Int) : Sc := up (up (up S 1 (S 0 0) p) 2 (S 0 0) s) 0 0 (S 0 0 + 1)
def addW (S : Sc) (f t : Int) : Sc := up (up (up S 3 (S 0 1) f) 4 (S 0 1) t) 0 1 (S 0 1 + 1)
def eS (S : Sc) : Sc := fun k j => if k = 0 ∧ (j = 0 ∨ j = 1) then 0 else if k = 0 ∧ (j = 2 ∨ j = 3) then -1 else if k = 0 ∧ j = 4 then 8 else if k = 5 ∧ 0 ≤ j ∧ j < 5 then ra_fc j else S k j
def lastS (S : Sc) : Int := if S 0 0 = 0 then -1 else S 2 (S 0 0 - 1)
def hwB (S : Sc) (f t : Int) : Nat → Bool
  | 0 => false
  | n + 1 => hwB S f t n || (decide (S 3 (n : Nat) = f) && decide (S 4 (n : Nat) = t))
theorem hwB_more {S : Sc} {f t : Int} : ∀ {n m : Nat}, n ≤ m → hwB S f t n = true → hwB S f t m = true := by
  intro n m h
  induction h with
  | refl => exact id
  | step _ ih => intro q; simp only [hwB, ih q, Bool.true_or]
def dS (ses : Int) (bx du : Int → Int) (b : Int) (n : Int) (q : Int × Int) : Int × Int := if bx n = b ∧ du n ≤ ses then (q.1 - 1, if q.1 = 0 then n else q.2) else q
def dN (ses : Int) (bx du : Int → Int) (b : Int) : Nat → Int × Int → Int × Int
  | 0, q => q
  | n + 1, q => dS ses bx du b (n : Nat) (dN ses bx du b n q)
def dB (ses : Int) (bx du : Int → Int) (nn : Nat) : Nat → Int × Int → Int × Int
  | 0, q => q
  | b + 1, q => dN ses bx du (b : Nat) nn (dB ses bx du nn b q)
theorem dS_neg {ses : Int} {bx du : Int → Int} {b n : Int} {q : Int × Int} (h : q.1 < 0) : (dS ses bx du b n q).1 < 0 ∧ (dS ses bx du b n q).2 = q.2 := by
  unfold dS
  split
  · exact ⟨by simp only; omega, by simp only; rw [if_neg (by omega)]⟩
  · exact ⟨h, rfl⟩
theorem dN_keep {ses : Int} {bx du : Int → Int} {b : Int} {q : Int × Int} {i m : Nat} (h : i ≤ m) : (dN ses bx du b i q).1 < 0 → (dN ses bx du b m q).1 < 0 ∧ (dN ses bx du b m q).2 = (dN ses bx du b i q).2 := by
  induction h with
  | refl => intro h; exact ⟨h, rfl⟩
  | @step m _ ih => intro h; have h2 := ih h; have h3 := dS_neg (ses := ses) (bx := bx) (du := du) (b := b) (n := (m : Nat)) h2.1; exact ⟨h3.1, h3.2.trans h2.2⟩
theorem dB_keep {ses : Int} {bx du : Int → Int} {nn : Nat} {q : Int × Int} {i m : Nat} (h : i ≤ m) : (dB ses bx du nn i q).1 < 0 → (dB ses bx du nn m q).1 < 0 ∧ (dB ses bx du nn m q).2 = (dB ses bx du nn i q).2 := by
  induction h with
  | refl => intro h; exact ⟨h, rfl⟩
  | @step m _ ih => intro h; have h2 := ih h; have h3 := dN_keep (ses := ses) (bx := bx) (du := du) (b := (m : Nat)) (q := dB ses bx du nn m q) (Nat.zero_le nn) h2.1; exact ⟨h3.1, h3.2.trans h2.2⟩
theorem dN_in (ses : Int) (bx du : Int → Int) (b : Int) (q : Int × Int) : ∀ n : Nat, q.1 - n ≤ (dN ses bx du b n q).1 ∧ (dN ses bx du b n q).1 ≤ q.1 := by
  intro n
  induction n with
  | zero => simp [dN]
  | succ n ih => simp only [dN]; unfold dS; split <;> (try simp only) <;> omega
theorem dB_in (ses : Int) (bx du : Int → Int) (nn : Nat) (q : Int × Int) (h : nn ≤ 60) : ∀ b : Nat, q.1 - 60 * b ≤ (dB ses bx du nn b q).1 ∧ (dB ses bx du nn b q).1 ≤ q.1 := by
  intro b
  induction b with
  | zero => simp [dB]
  | succ b ih => have := dN_in ses bx du (b : Nat) (dB ses bx du nn b q) nn; simp only [dB]; omega
def dueF (nn : Int) (ses : Int) (bx du : Int → Int) (k : Int) : Int := (dB ses bx du nn.toNat 6 (k, -1)).2
def cDue (ses : Int) (du : Int → Int) : Nat → Int
  | 0 => 0
  | n + 1 => cDue ses du n + (if du (n : Nat) ≤ ses then 1 else 0)
theorem cDue_in (ses : Int) (du : Int → Int) : ∀ n : Nat, 0 ≤ cDue ses du n ∧ cDue ses du n ≤ n := by
  intro n
  induction n with
  | zero => simp [cDue]
  | succ n ih => simp only [cDue]; split <;> omega
/-- (BOX, DUE FROM) of the first n notes behind end() -/
def fgB (S : Sc) (hp : Int → Int) (ls : List St4) (n : Int) : Prop := 0 < cPl n ls ∧ cRt S hp n ls = cPl n ls ∧ cPs n ls = 0
def tcB (ls : List St4) (n : Int) : Prop := 0 < cPl n ls ∨ 0 < cPs n ls
def sh2 (b : Int) : Int := ((2 ^ b.toNat : Nat) : Int)
theorem sh2_in {b : Int} (h : 0 ≤ b ∧ b ≤ 5) : 1 ≤ sh2 b ∧ sh2 b ≤ 32 := by
  have h1 : b.toNat ≤ 5 := by omega
  unfold sh2
  have h2 : 2 ^ b.toNat ≤ 2 ^ 5 := Nat.pow_le_pow_right (by omega) h1
  have h3 : 0 < 2 ^ b.toNat := Nat.pow_pos (by omega)
  omega
def nBD (S : Sc) (hp : Int → Int) (ls : List St4) (ses : Int) (n : Int) (q : (Int → Int) × (Int → Int)) : (Int → Int) × (Int → Int) :=
  if 0 < cPl n ls ∧ cRt S hp n ls = cPl n ls ∧ cPs n ls = 0 then (fU q.1 n (min 5 (q.1 n + 1)), fU q.2 n (ses + sh2 (min 5 (q.1 n + 1))))
  else if 0 < cPl n ls ∨ 0 < cPs n ls then (fU q.1 n 0, fU q.2 n (ses + 1)) else q
def eBD (S : Sc) (hp : Int → Int) (ls : List St4) (ses : Int) (q : (Int → Int) × (Int → Int)) : Nat → (Int → Int) × (Int → Int)
  | 0 => q
  | n + 1 => nBD S hp ls ses (n : Nat) (eBD S hp ls ses q n)
theorem eBD_in {S : Sc} {hp : Int → Int} {ls : List St4} {ses : Int} {q : (Int → Int) × (Int → Int)} (h : ∀ n, 0 ≤ n → n < 60 → 0 ≤ q.1 n ∧ q.1 n ≤ 5) : ∀ m : Nat, m ≤ 60 → ∀ n, 0 ≤ n → n < 60 → 0 ≤ (eBD S hp ls ses q m).1 n ∧ (eBD S hp ls ses q m).1 n ≤ 5 := by
  intro m
  induction m with
  | zero => intro _; exact h
  | succ m ih =>
    intro hm n a b
    have i1 := ih (by omega) n a b
    have i2 := ih (by omega) (m : Nat) (by omega) (by omega)
    simp only [eBD]
    unfold nBD
    split
    · simp only [fU]; split <;> omega
    · split
      · simp only [fU]; split <;> omega
      · exact i1
def sumF (f : Int → Int) : Nat → Int
  | 0 => 0
  | n + 1 => sumF f n + f (n : Nat)

set_option maxRecDepth 20000 in
set_option maxHeartbeats 2000000 in
theorem t_hadd (d : Nat) (M : ra_M) (p t : Int) (h1 : 0 ≤ M 7 2 ∧ M 7 2 < 120) : Ex d m_X4_add [vR 7, vI p, vI t] M (fun r M2 => r = some (vI (M 7 2)) ∧ M2 = up (up (up M 8 (M 7 2) p) 9 (M 7 2) t) 7 2 (M 7 2 + 1)) := by
  refine Ex_leaf (Nat.le_of_ble_eq_true rfl) (fun C K hK => ?_)
  show K 0 [some (vR 7), some (vI p), some (vI t)] [] M
  have hK : ra_Clo _ m_X4_add cX4_add _ K := hK
  refine k_aln hK (q := 1)  dX4_add_0 rfl (z := 7) rfl (k_gR hK (q := 4) (r := 8) dX4_add_1 rfl rf_X4_9 rfl rfl (k_aln hK (q := 5)  dX4_add_4 rfl (z := 7) rfl (k_gI hK (q := 8) (z := M 7 2) 0 dX4_add_5 rfl rf_X4_18 rfl rfl rfl rfl (k_iln hK (q := 9)  dX4_add_8 rfl (z := p) rfl (k_ast hK (q := 10)  dX4_add_9 rfl rfl (by omega) ?_)))))
  refine k_aln hK (q := 11)  dX4_add_10 rfl (z := 7) rfl (k_gR hK (q := 14) (r := 9) dX4_add_11 rfl rf_X4_15 rfl rfl (k_aln hK (q := 15)  dX4_add_14 rfl (z := 7) rfl (k_gI hK (q := 18) (z := M 7 2) 0 dX4_add_15 rfl rf_X4_18 rfl rfl rfl rfl (k_iln hK (q := 19)  dX4_add_18 rfl (z := t) rfl (k_ast hK (q := 20)  dX4_add_19 rfl rfl (by omega) ?_)))))
  refine k_aln hK (q := 21)  dX4_add_20 rfl (z := 7) rfl (k_dup hK (q := 22)  dX4_add_21 rfl rfl (k_gI hK (q := 25) (z := M 7 2) 0 dX4_add_22 rfl rf_X4_18 rfl rfl rfl rfl (k_ic hK (q := 26)  dX4_add_25 rfl (by decide) (k_add hK (q := 27)  dX4_add_26 rfl (z := (M 7 2) + 1) rfl (by omega) (k_pI hK (q := 30) (M2 := up (up (up M 8 (M 7 2) p) 9 (M 7 2) t) 7 2 ((M 7 2) + 1)) dX4_add_27 rfl rp_X4_18 rfl rfl rfl ?_)))))
  refine k_aln hK (q := 31)  dX4_add_30 rfl (z := 7) rfl (k_gI hK (q := 34) (z := (M 7 2) + 1) 0 dX4_add_31 rfl rf_X4_18 rfl rfl rfl rfl (k_ic hK (q := 35)  dX4_add_34 rfl (by decide) (k_sub hK (q := 36)  dX4_add_35 rfl (z := ((M 7 2) + 1) - 1) rfl (by omega) ?_)))
  refine k_ir hK dX4_add_36 rfl ?_
  exact ⟨by rw [Int.add_sub_cancel], rfl⟩

set_option maxRecDepth 20000 in
set_option maxHeartbeats 2000000 in
theorem t_lastTime (d : Nat) (M : ra_M) (h1 : 0 ≤ M 7 2 ∧ M 7 2 ≤ 120) : Ex d m_X4_lastTime [vR 7] M (fun r M2 => r = some (vI (if M 7 2 = 0 then 0 else M 9 (M 7 2 - 1))) ∧ M2 = M) := by
  refine Ex_leaf (Nat.le_of_ble_eq_true rfl) (fun C K hK => ?_)
  show K 0 [some (vR 7)] [] M
  have hK : ra_Clo _ m_X4_lastTime cX4_lastTime _ K := hK
  refine k_aln hK (q := 1)  dX4_lastTime_0 rfl (z := 7) rfl (k_gI hK (q := 4) (z := M 7 2) 0 dX4_lastTime_1 rfl rf_X4_18 rfl rfl rfl rfl ?_)
  refine k_ifne hK (q := 7) (t := 11) dX4_lastTime_4 rfl rfl (fun h4 => ?_) (fun h4 => ?_)
  · refine k_aln hK (q := 12)  dX4_lastTime_11 rfl (z := 7) rfl (k_gR hK (q := 15) (r := 9) dX4_lastTime_12 rfl rf_X4_15 rfl rfl (k_aln hK (q := 16)  dX4_lastTime_15 rfl (z := 7) rfl (k_gI hK (q := 19) (z := M 7 2) 0 dX4_lastTime_16 rfl rf_X4_18 rfl rfl rfl rfl (k_ic hK (q := 20)  dX4_lastTime_19 rfl (by decide) (k_sub hK (q := 21)  dX4_lastTime_20 rfl (z := (M 7 2) - 1) rfl (by omega) ?_)))))
    refine k_ald hK (q := 22)  dX4_lastTime_21 rfl (y := M 9 ((M 7 2) - 1)) rfl (by omega) rfl ?_
    refine k_ir hK dX4_lastTime_22 rfl ?_
    first | (rw [if_neg h4]; exact ⟨rfl, rfl⟩) | (rw [if_pos h4]; exact ⟨rfl, rfl⟩)
  · refine k_ic hK (q := 8)  dX4_lastTime_7 rfl (by decide) (k_goto hK (t := 22) dX4_lastTime_8 rfl ?_)
    refine k_ir hK dX4_lastTime_22 rfl ?_
    first | (rw [if_neg h4]; exact ⟨rfl, rfl⟩) | (rw [if_pos h4]; exact ⟨rfl, rfl⟩)

set_option maxRecDepth 20000 in
set_option maxHeartbeats 2000000 in
theorem t_addNote (d : Nat) (M : ra_M) (p t : Int) (h1 : 0 ≤ M 1 5 ∧ M 1 5 < 60) : Ex d m_X6_addNote [vR 1, vI p, vI t] M (fun r M2 => r = some (vI (M 1 5)) ∧ M2 = up (up (up M 2 (M 1 5) p) 3 (M 1 5) t) 1 5 (M 1 5 + 1)) := by
  refine Ex_leaf (Nat.le_of_ble_eq_true rfl) (fun C K hK => ?_)
  show K 0 [some (vR 1), some (vI p), some (vI t)] [] M
  have hK : ra_Clo _ m_X6_addNote cX6_addNote _ K := hK
  refine k_aln hK (q := 1)  dX6_addNote_0 rfl (z := 1) rfl (k_gR hK (q := 4) (r := 2) dX6_addNote_1 rfl rf_X6_9 rfl rfl (k_aln hK (q := 5)  dX6_addNote_4 rfl (z := 1) rfl (k_gI hK (q := 8) (z := M 1 5) 0 dX6_addNote_5 rfl rf_X6_33 rfl rfl rfl rfl (k_iln hK (q := 9)  dX6_addNote_8 rfl (z := p) rfl (k_ast hK (q := 10)  dX6_addNote_9 rfl rfl (by omega) ?_)))))
  refine k_aln hK (q := 11)  dX6_addNote_10 rfl (z := 1) rfl (k_gR hK (q := 14) (r := 3) dX6_addNote_11 rfl rf_X6_15 rfl rfl (k_aln hK (q := 15)  dX6_addNote_14 rfl (z := 1) rfl (k_gI hK (q := 18) (z := M 1 5) 0 dX6_addNote_15 rfl rf_X6_33 rfl rfl rfl rfl (k_iln hK (q := 19)  dX6_addNote_18 rfl (z := t) rfl (k_ast hK (q := 20)  dX6_addNote_19 rfl rfl (by omega) ?_)))))
  refine k_aln hK (q := 21)  dX6_addNote_20 rfl (z := 1) rfl (k_dup hK (q := 22)  dX6_addNote_21 rfl rfl (k_gI hK (q := 25) (z := M 1 5) 0 dX6_addNote_22 rfl rf_X6_33 rfl rfl rfl rfl (k_ic hK (q := 26)  dX6_addNote_25 rfl (by decide) (k_add hK (q := 27)  dX6_addNote_26 rfl (z := (M 1 5) + 1) rfl (by omega) (k_pI hK (q := 30) (M2 := up (up (up M 2 (M 1 5) p) 3 (M 1 5) t) 1 5 ((M 1 5) + 1)) dX6_addNote_27 rfl rp_X6_33 rfl rfl rfl ?_)))))
  refine k_aln hK (q := 31)  dX6_addNote_30 rfl (z := 1) rfl (k_gI hK (q := 34) (z := (M 1 5) + 1) 0 dX6_addNote_31 rfl rf_X6_33 rfl rfl rfl rfl (k_ic hK (q := 35)  dX6_addNote_34 rfl (by decide) (k_sub hK (q := 36)  dX6_addNote_35 rfl (z := ((M 1 5) + 1) - 1) rfl (by omega) ?_)))
  refine k_ir hK dX6_addNote_36 rfl ?_
  exact ⟨by rw [Int.add_sub_cancel], rfl⟩

set_option maxRecDepth 20000 in
set_option maxHeartbeats 2000000 in
theorem t_addWay (d : Nat) (M : ra_M) (p t : Int) (h1 : 0 ≤ M 1 6 ∧ M 1 6 < 12) : Ex d m_X6_addWay [vR 1, vI p, vI t] M (fun r M2 => r = some (vI (M 1 6)) ∧ M2 = up (up (up M 4 (M 1 6) p) 5 (M 1 6) t) 1 6 (M 1 6 + 1)) := by
  refine Ex_leaf (Nat.le_of_ble_eq_true rfl) (fun C K hK => ?_)
  show K 0 [some (vR 1), some (vI p), some (vI t)] [] M
  have hK : ra_Clo _ m_X6_addWay cX6_addWay _ K := hK
  refine k_aln hK (q := 1)  dX6_addWay_0 rfl (z := 1) rfl (k_gR hK (q := 4) (r := 4) dX6_addWay_1 rfl rf_X6_18 rfl rfl (k_aln hK (q := 5)  dX6_addWay_4 rfl (z := 1) rfl (k_gI hK (q := 8) (z := M 1 6) 0 dX6_addWay_5 rfl rf_X6_37 rfl rfl rfl rfl (k_iln hK (q := 9)  dX6_addWay_8 rfl (z := p) rfl (k_ast hK (q := 10)  dX6_addWay_9 rfl rfl (by omega) ?_)))))
  refine k_aln hK (q := 11)  dX6_addWay_10 rfl (z := 1) rfl (k_gR hK (q := 14) (r := 5) dX6_addWay_11 rfl rf_X6_21 rfl rfl (k_aln hK (q := 15)  dX6_addWay_14 rfl (z := 1) rfl (k_gI hK (q := 18) (z := M 1 6) 0 dX6_addWay_15 rfl rf_X6_37 rfl rfl rfl rfl (k_iln hK (q := 19)  dX6_addWay_18 rfl (z := t) rfl (k_ast hK (q := 20)  dX6_addWay_19 rfl rfl (by omega) ?_)))))
  refine k_aln hK (q := 21)  dX6_addWay_20 rfl (z := 1) rfl (k_dup hK (q := 22)  dX6_addWay_21 rfl rfl (k_gI hK (q := 25) (z := M 1 6) 0 dX6_addWay_22 rfl rf_X6_37 rfl rfl rfl rfl (k_ic hK (q := 26)  dX6_addWay_25 rfl (by decide) (k_add hK (q := 27)  dX6_addWay_26 rfl (z := (M 1 6) + 1) rfl (by omega) (k_pI hK (q := 30) (M2 := up (up (up M 4 (M 1 6) p) 5 (M 1 6) t) 1 6 ((M 1 6) + 1)) dX6_addWay_27 rfl rp_X6_37 rfl rfl rfl ?_)))))
  refine k_aln hK (q := 31)  dX6_addWay_30 rfl (z := 1) rfl (k_gI hK (q := 34) (z := (M 1 6) + 1) 0 dX6_addWay_31 rfl rf_X6_37 rfl rfl rfl rfl (k_ic hK (q := 35)  dX6_addWay_34 rfl (by decide) (k_sub hK (q := 36)  dX6_addWay_35 rfl (z := ((M 1 6) + 1) - 1) rfl (by omega) ?_)))
  refine k_ir hK dX6_addWay_36 rfl ?_
  exact ⟨by rw [Int.add_sub_cancel], rfl⟩

set_option maxRecDepth 20000 in
set_option maxHeartbeats 2000000 in
theorem hasWay_loop {C : Nat → List ra_V → ra_M → (Option ra_V → ra_M → Prop) → Prop} {Q : Option ra_V → ra_M → Prop} {K : Nat → ra_L → List ra_V → ra_M → Prop} (hK : ra_Clo C m_X6_hasWay cX6_hasWay Q K) {S : Sc} (hS : okSc S) {M : ra_M} (hs : scC M = S) {f t : Int} (hQ : Q (some (vI (bi (hwB S f t (S 0 1).toNat = true)))) M) :
    ∀ (n i : Nat), i + n = (S 0 1).toNat → hwB S f t i = false → K 2 [some (vR 1), some (vI f), some (vI t), some (vI (i : Nat))] [] M := by
  obtain ⟨e5, e6, e7, e8, e9⟩ := scC_e hs
  obtain ⟨a2, a3, a4, a5, a6⟩ := scC_a hs
  have hs1 := hS.2.1
  intro n
  induction n with
  | zero =>
    intro i hi hi9
    refine k_iln hK (q := 3)  dX6_hasWay_2 rfl (z := (i : Nat)) rfl (k_aln hK (q := 4)  dX6_hasWay_3 rfl (z := 1) rfl (k_gI hK (q := 7) (z := M 1 6) 0 dX6_hasWay_4 rfl rf_X6_37 rfl rfl rfl rfl ?_))
    refine k_cge hK (q := 10) (t := 38) dX6_hasWay_7 rfl rfl (fun h7 => ?_) (fun h7 => ?_)
    · refine k_ic hK (q := 39)  dX6_hasWay_38 rfl (by decide) ?_
      refine k_irz hK dX6_hasWay_39 rfl (by decide) ?_
      have hi2 : i = (S 0 1).toNat := by omega
      subst hi2
      rw [hi9] at hQ
      exact hQ
    · exact absurd h7 (by omega)
  | succ n ih =>
    intro i hi hi9
    refine k_iln hK (q := 3)  dX6_hasWay_2 rfl (z := (i : Nat)) rfl (k_aln hK (q := 4)  dX6_hasWay_3 rfl (z := 1) rfl (k_gI hK (q := 7) (z := M 1 6) 0 dX6_hasWay_4 rfl rf_X6_37 rfl rfl rfl rfl ?_))
    refine k_cge hK (q := 10) (t := 38) dX6_hasWay_7 rfl rfl (fun h7 => ?_) (fun h7 => ?_)
    · exact absurd h7 (by omega)
    · refine k_aln hK (q := 11)  dX6_hasWay_10 rfl (z := 1) rfl (k_gR hK (q := 14) (r := 4) dX6_hasWay_11 rfl rf_X6_18 rfl rfl (k_iln hK (q := 15)  dX6_hasWay_14 rfl (z := (i : Nat)) rfl (k_ald hK (q := 16)  dX6_hasWay_15 rfl (y := M 4 (i : Nat)) rfl (by omega) rfl (k_iln hK (q := 17)  dX6_hasWay_16 rfl (z := f) rfl ?_))))
      refine k_cne hK (q := 20) (t := 32) dX6_hasWay_17 rfl rfl (fun h17 => ?_) (fun h17 => ?_)
      · refine k_inc hK (q := 35)  dX6_hasWay_32 rfl (y := (i : Nat) + 1) (L2 := [some (vR 1), some (vI f), some (vI t), some (vI ((i : Nat) + 1))]) rfl rfl (by omega) rfl (k_goto hK (t := 2) dX6_hasWay_35 rfl ?_)
        refine ih (i + 1) (by omega) ?_
        simp only [hwB]
        rw [hi9, ← a4, ← a5]
        simp only [Bool.false_or, Bool.and_eq_false_imp, decide_eq_true_eq, decide_eq_false_iff_not]
        intro q1 q2
        first | exact h17 q1 | exact h27 q2
      · refine k_aln hK (q := 21)  dX6_hasWay_20 rfl (z := 1) rfl (k_gR hK (q := 24) (r := 5) dX6_hasWay_21 rfl rf_X6_21 rfl rfl (k_iln hK (q := 25)  dX6_hasWay_24 rfl (z := (i : Nat)) rfl (k_ald hK (q := 26)  dX6_hasWay_25 rfl (y := M 5 (i : Nat)) rfl (by omega) rfl (k_iln hK (q := 27)  dX6_hasWay_26 rfl (z := t) rfl ?_))))
        refine k_cne hK (q := 30) (t := 32) dX6_hasWay_27 rfl rfl (fun h27 => ?_) (fun h27 => ?_)
        · refine k_inc hK (q := 35)  dX6_hasWay_32 rfl (y := (i : Nat) + 1) (L2 := [some (vR 1), some (vI f), some (vI t), some (vI ((i : Nat) + 1))]) rfl rfl (by omega) rfl (k_goto hK (t := 2) dX6_hasWay_35 rfl ?_)
          refine ih (i + 1) (by omega) ?_
          simp only [hwB]
          rw [hi9, ← a4, ← a5]
          simp only [Bool.false_or, Bool.and_eq_false_imp, decide_eq_true_eq, decide_eq_false_iff_not]
          intro q1 q2
          first | exact h17 q1 | exact h27 q2
        · refine k_ic hK (q := 31)  dX6_hasWay_30 rfl (by decide) ?_
          refine k_irz hK dX6_hasWay_31 rfl (by decide) ?_
          have hh : hwB S f t (i + 1) = true := by simp only [hwB]; rw [← a4, ← a5]; simp [h17, h27]
          rw [hwB_more (show i + 1 ≤ (S 0 1).toNat by omega) hh] at hQ
          exact hQ

set_option maxRecDepth 20000 in
set_option maxHeartbeats 2000000 in
theorem t_hasWay (d : Nat) (M : ra_M) (f t : Int) (S : Sc) (hs : scC M = S) (hS : okSc S) : Ex d m_X6_hasWay [vR 1, vI f, vI t] M (fun r M2 => r = some (vI (bi (hwB S f t (S 0 1).toNat = true))) ∧ M2 = M) := by
  refine Ex_leaf (Nat.le_of_ble_eq_true rfl) (fun C K hK => ?_)
  show K 0 [some (vR 1), some (vI f), some (vI t), none] [] M
  have hK : ra_Clo _ m_X6_hasWay cX6_hasWay _ K := hK
  refine k_ic hK (q := 1)  dX6_hasWay_0 rfl (by decide) (k_isn hK (q := 2)  dX6_hasWay_1 rfl (L2 := [some (vR 1), some (vI f), some (vI t), some (vI 0)]) (Nat.le_of_ble_eq_true rfl) rfl ?_)
  exact hasWay_loop hK hS hs ⟨rfl, rfl⟩ (S 0 1).toNat 0 (by omega) rfl

set_option maxRecDepth 20000 in
set_option maxHeartbeats 2000000 in
theorem empty_loop {C : Nat → List ra_V → ra_M → (Option ra_V → ra_M → Prop) → Prop} {Q : Option ra_V → ra_M → Prop} {K : Nat → ra_L → List ra_V → ra_M → Prop} (hK : ra_Clo C m_X6_empty cX6_empty Q K) {M0 : ra_M} (hQ : ∀ M : ra_M, (∀ j, M 6 j = if 0 ≤ j ∧ j < ((5 : Nat) : Int) then ra_fc j else M0 6 j) → frX [6] M0 M → Q none M) :
    ∀ (n i : Nat) (M : ra_M), i + n = 5 → (∀ j, M 6 j = if 0 ≤ j ∧ j < (i : Nat) then ra_fc j else M0 6 j) → frX [6] M0 M → K 28 [some (vR 1), some (vI (i : Nat))] [] M := by
  intro n
  induction n with
  | zero =>
    intro i M hi h6 hf
    refine k_iln hK (q := 29)  dX6_empty_28 rfl (z := (i : Nat)) rfl (k_gs hK (q := 32)  dX6_empty_29 rfl rg_X6_24 (k_lenR hK (q := 33)  dX6_empty_32 rfl ?_))
    refine k_cge hK (q := 36) (t := 53) dX6_empty_33 rfl rfl (fun h33 => ?_) (fun h33 => ?_)
    · refine k_vr hK dX6_empty_53 rfl ?_
      have hi2 : i = 5 := by omega
      subst hi2
      exact hQ M h6 hf
    · exact absurd h33 (by omega)
  | succ n ih =>
    intro i M hi h6 hf
    refine k_iln hK (q := 29)  dX6_empty_28 rfl (z := (i : Nat)) rfl (k_gs hK (q := 32)  dX6_empty_29 rfl rg_X6_24 (k_lenR hK (q := 33)  dX6_empty_32 rfl ?_))
    refine k_cge hK (q := 36) (t := 53) dX6_empty_33 rfl rfl (fun h33 => ?_) (fun h33 => ?_)
    · exact absurd h33 (by omega)
    · refine k_aln hK (q := 37)  dX6_empty_36 rfl (z := 1) rfl (k_gR hK (q := 40) (r := 6) dX6_empty_37 rfl rf_X6_27 rfl rfl (k_iln hK (q := 41)  dX6_empty_40 rfl (z := (i : Nat)) rfl (k_gs hK (q := 44)  dX6_empty_41 rfl rg_X6_24 (k_iln hK (q := 45)  dX6_empty_44 rfl (z := (i : Nat)) rfl (k_aldR hK (q := 46)  dX6_empty_45 rfl (by omega) ?_)))))
      refine k_ast hK (q := 47)  dX6_empty_46 rfl rfl (by omega) (k_inc hK (q := 50)  dX6_empty_47 rfl (y := (i : Nat) + 1) (L2 := [some (vR 1), some (vI ((i : Nat) + 1))]) rfl rfl (by omega) rfl (k_goto hK (t := 28) dX6_empty_50 rfl ?_))
      refine ih (i + 1) _ (by omega) (fun j => ?_) (frX_up hf _ _ (by decide))
      by_cases hj : j = (i : Nat)
      · rw [hj, up_same, if_pos (by omega)]
      · rw [up_j _ _ hj, h6 j]
        by_cases hj2 : 0 ≤ j ∧ j < (i : Nat)
        · rw [if_pos hj2, if_pos (by omega)]
        · rw [if_neg hj2, if_neg (by omega)]

set_option maxRecDepth 20000 in
set_option maxHeartbeats 2000000 in
theorem xc_empty (d : Nat) (M : ra_M) : Ex d m_X6_empty [vR 1] M (fun r M2 => r = none ∧ scC M2 = eS (scC M) ∧ frX [1, 6] M M2) := by
  refine Ex_leaf (Nat.le_of_ble_eq_true rfl) (fun C K hK => ?_)
  show K 0 [some (vR 1), none] [] M
  have hK : ra_Clo _ m_X6_empty cX6_empty _ K := hK
  refine k_aln hK (q := 1)  dX6_empty_0 rfl (z := 1) rfl (k_ic hK (q := 2)  dX6_empty_1 rfl (by decide) (k_pI hK (q := 5) (M2 := up M 1 5 0) dX6_empty_2 rfl rp_X6_33 rfl rfl rfl (k_aln hK (q := 6)  dX6_empty_5 rfl (z := 1) rfl (k_ic hK (q := 7)  dX6_empty_6 rfl (by decide) (k_pI hK (q := 10) (M2 := up (up M 1 5 0) 1 6 0) dX6_empty_7 rfl rp_X6_37 rfl rfl rfl ?_)))))
  refine k_aln hK (q := 11)  dX6_empty_10 rfl (z := 1) rfl (k_ic hK (q := 12)  dX6_empty_11 rfl (by decide) (k_pI hK (q := 15) (M2 := up (up (up M 1 5 0) 1 6 0) 1 7 (-1)) dX6_empty_12 rfl rp_X6_40 rfl rfl rfl (k_aln hK (q := 16)  dX6_empty_15 rfl (z := 1) rfl (k_ic hK (q := 17)  dX6_empty_16 rfl (by decide) (k_pI hK (q := 20) (M2 := up (up (up (up M 1 5 0) 1 6 0) 1 7 (-1)) 1 8 (-1)) dX6_empty_17 rfl rp_X6_43 rfl rfl rfl ?_)))))
  refine k_aln hK (q := 21)  dX6_empty_20 rfl (z := 1) rfl (k_bp hK (q := 23)  dX6_empty_21 rfl (by decide) (k_pI hK (q := 26) (M2 := up (up (up (up (up M 1 5 0) 1 6 0) 1 7 (-1)) 1 8 (-1)) 1 9 8) dX6_empty_23 rfl rp_X6_46 rfl rfl rfl (k_ic hK (q := 27)  dX6_empty_26 rfl (by decide) (k_isn hK (q := 28)  dX6_empty_27 rfl (L2 := [some (vR 1), some (vI 0)]) (Nat.le_of_ble_eq_true rfl) rfl ?_))))
  refine empty_loop hK (M0 := up (up (up (up (up M 1 5 0) 1 6 0) 1 7 (-1)) 1 8 (-1)) 1 9 8) (fun M2 h6 hf => ⟨rfl, ?_, fun k hk => ?_⟩) 5 0 _ (by omega) (fun j => ?_) (frX_refl _ _)
  · have g1 : M2 1 = (up (up (up (up (up M 1 5 0) 1 6 0) 1 7 (-1)) 1 8 (-1)) 1 9 8) 1 := hf 1 (by decide)
    have g2 : M2 2 = M 2 := by rw [hf 2 (by decide)]; funext x; simp [up]
    have g3 : M2 3 = M 3 := by rw [hf 3 (by decide)]; funext x; simp [up]
    have g4 : M2 4 = M 4 := by rw [hf 4 (by decide)]; funext x; simp [up]
    have g5 : M2 5 = M 5 := by rw [hf 5 (by decide)]; funext x; simp [up]
    funext k j
    rcases k with _ | _ | _ | _ | _ | _ | k
    · simp only [scC, eS, g1]
      by_cases j0 : j = 0
      · simp [j0, up]
      by_cases j1 : j = 1
      · simp [j1, up]
      by_cases j2 : j = 2
      · simp [j2, up]
      by_cases j3 : j = 3
      · simp [j3, up]
      by_cases j4 : j = 4
      · simp [j4, up]
      simp [j0, j1, j2, j3, j4]
    · simp [scC, eS, g2]
    · simp [scC, eS, g3]
    · simp [scC, eS, g4]
    · simp [scC, eS, g5]
    · simp only [scC, eS, h6 j]
      by_cases hj : 0 ≤ j ∧ j < 5
      · simp [hj]
      · simp [hj, up]
    · simp [scC, eS]
  · rw [hf k (by simp at hk ⊢; exact hk.2)]
    simp at hk
    funext x
    simp [up, hk.1]
  · rw [if_neg (by omega)]

set_option maxRecDepth 20000 in
set_option maxHeartbeats 2000000 in
theorem t_open (d : Nat) (M : ra_M) (n : Int) (h1 : 0 ≤ n ∧ n < 60) : Ex d m_X2_open [vR 29, vI n] M (fun r M2 => r = none ∧ M2 = up (up M 30 n 0) 31 n 0) := by
  refine Ex_leaf (Nat.le_of_ble_eq_true rfl) (fun C K hK => ?_)
  show K 0 [some (vR 29), some (vI n)] [] M
  have hK : ra_Clo _ m_X2_open cX2_open _ K := hK
  refine k_aln hK (q := 1)  dX2_open_0 rfl (z := 29) rfl (k_gR hK (q := 4) (r := 30) dX2_open_1 rfl rf_X2_9 rfl rfl (k_iln hK (q := 5)  dX2_open_4 rfl (z := n) rfl (k_ic hK (q := 6)  dX2_open_5 rfl (by decide) (k_ast hK (q := 7)  dX2_open_6 rfl rfl (by omega) (k_aln hK (q := 8)  dX2_open_7 rfl (z := 29) rfl ?_)))))
  refine k_gR hK (q := 11) (r := 31) dX2_open_8 rfl rf_X2_15 rfl rfl (k_iln hK (q := 12)  dX2_open_11 rfl (z := n) rfl (k_ic hK (q := 13)  dX2_open_12 rfl (by decide) (k_ast hK (q := 14)  dX2_open_13 rfl rfl (by omega) ?_)))
  refine k_vr hK dX2_open_14 rfl ?_
  exact ⟨rfl, rfl⟩

set_option maxRecDepth 20000 in
set_option maxHeartbeats 2000000 in
theorem t_bput (d : Nat) (M : ra_M) (n b : Int) (h1 : 0 ≤ n ∧ n < 60) (hb : 0 ≤ b ∧ b ≤ 5) (hs : 0 ≤ M 29 2 ∧ M 29 2 ≤ 1000000) : Ex d m_X2_put [vR 29, vI n, vI b] M (fun r M2 => r = none ∧ M2 = up (up M 30 n b) 31 n (M 29 2 + sh2 b)) := by
  refine Ex_leaf (Nat.le_of_ble_eq_true rfl) (fun C K hK => ?_)
  show K 0 [some (vR 29), some (vI n), some (vI b)] [] M
  have hK : ra_Clo _ m_X2_put cX2_put _ K := hK
  have hsh := sh2_in hb
  have hpw : (1 : Nat) * 2 ^ b.toNat < 2147483648 := by
    unfold sh2 at hsh
    omega
  refine k_aln hK (q := 1)  dX2_put_0 rfl (z := 29) rfl (k_gR hK (q := 4) (r := 30) dX2_put_1 rfl rf_X2_9 rfl rfl (k_iln hK (q := 5)  dX2_put_4 rfl (z := n) rfl (k_iln hK (q := 6)  dX2_put_5 rfl (z := b) rfl (k_ast hK (q := 7)  dX2_put_6 rfl rfl (by omega) (k_aln hK (q := 8)  dX2_put_7 rfl (z := 29) rfl ?_)))))
  refine k_gR hK (q := 11) (r := 31) dX2_put_8 rfl rf_X2_15 rfl rfl (k_iln hK (q := 12)  dX2_put_11 rfl (z := n) rfl (k_aln hK (q := 13)  dX2_put_12 rfl (z := 29) rfl (k_gI hK (q := 16) (z := M 29 2) 0 dX2_put_13 rfl rf_X2_28 rfl rfl rfl rfl (k_ic hK (q := 17)  dX2_put_16 rfl (by decide) (k_iln hK (q := 18)  dX2_put_17 rfl (z := b) rfl ?_)))))
  refine k_shl hK (q := 19)  dX2_put_18 rfl (z := sh2 b) (m := 1) (n := b.toNat) rfl (by omega) (by omega) hpw (by unfold sh2; rw [Nat.one_mul]) (k_add hK (q := 20)  dX2_put_19 rfl (z := (M 29 2) + (sh2 b)) rfl (by omega) (k_ast hK (q := 21)  dX2_put_20 rfl rfl (by omega) ?_))
  refine k_vr hK dX2_put_21 rfl ?_
  exact ⟨rfl, rfl⟩

set_option maxRecDepth 20000 in
set_option maxHeartbeats 2000000 in
theorem t_raise (d : Nat) (M : ra_M) (n : Int) (h1 : 0 ≤ n ∧ n < 60) (hb : 0 ≤ M 30 n ∧ M 30 n ≤ 5) (hs : 0 ≤ M 29 2 ∧ M 29 2 ≤ 1000000) : Ex (d + 1) m_X2_raise [vR 29, vI n] M (fun r M2 => r = none ∧ M2 = up (up M 30 n (min 5 (M 30 n + 1))) 31 n (M 29 2 + sh2 (min 5 (M 30 n + 1)))) := by
  refine Ex_call (Nat.le_of_ble_eq_true rfl) (fun K hK => ?_)
  show K 0 [some (vR 29), some (vI n)] [] M
  have hK : ra_Clo _ m_X2_raise cX2_raise _ K := hK
  refine k_aln hK (q := 1)  dX2_raise_0 rfl (z := 29) rfl (k_iln hK (q := 2)  dX2_raise_1 rfl (z := n) rfl (k_ic hK (q := 3)  dX2_raise_2 rfl (by decide) (k_aln hK (q := 4)  dX2_raise_3 rfl (z := 29) rfl (k_gR hK (q := 7) (r := 30) dX2_raise_4 rfl rf_X2_9 rfl rfl (k_iln hK (q := 8)  dX2_raise_7 rfl (z := n) rfl ?_)))))
  refine k_ald hK (q := 9)  dX2_raise_8 rfl (y := M 30 n) rfl (by omega) rfl (k_ic hK (q := 10)  dX2_raise_9 rfl (by decide) (k_add hK (q := 11)  dX2_raise_10 rfl (z := (M 30 n) + 1) rfl (by omega) ?_))
  refine k_st2I hK (q := 14) dX2_raise_11 rfl rm_X2_18 (Nat.le_of_ble_eq_true rfl) (t_min _ M 5 ((M 30 n) + 1)) ?_
  refine k_iv2V hK (q := 17) dX2_raise_14 rfl rm_X2_24 rfl rfl (Nat.le_of_ble_eq_true rfl) (t_bput _ M n (min 5 ((M 30 n) + 1)) (by omega) (by omega) (by omega)) ?_
  refine k_vr hK dX2_raise_17 rfl ?_
  exact ⟨rfl, rfl⟩

set_option maxRecDepth 20000 in
set_option maxHeartbeats 2000000 in
theorem t_drop (d : Nat) (M : ra_M) (n : Int) (h1 : 0 ≤ n ∧ n < 60) (hs : 0 ≤ M 29 2 ∧ M 29 2 ≤ 1000000) : Ex (d + 1) m_X2_drop [vR 29, vI n] M (fun r M2 => r = none ∧ M2 = up (up M 30 n 0) 31 n (M 29 2 + sh2 0)) := by
  refine Ex_call (Nat.le_of_ble_eq_true rfl) (fun K hK => ?_)
  show K 0 [some (vR 29), some (vI n)] [] M
  have hK : ra_Clo _ m_X2_drop cX2_drop _ K := hK
  refine k_aln hK (q := 1)  dX2_drop_0 rfl (z := 29) rfl (k_iln hK (q := 2)  dX2_drop_1 rfl (z := n) rfl (k_ic hK (q := 3)  dX2_drop_2 rfl (by decide) ?_))
  refine k_iv2V hK (q := 6) dX2_drop_3 rfl rm_X2_24 rfl rfl (Nat.le_of_ble_eq_true rfl) (t_bput _ M n 0 (by omega) (by omega) (by omega)) ?_
  refine k_vr hK dX2_drop_6 rfl ?_
  exact ⟨rfl, rfl⟩

set_option maxRecDepth 20000 in
set_option maxHeartbeats 2000000 in
theorem countDue_loop {C : Nat → List ra_V → ra_M → (Option ra_V → ra_M → Prop) → Prop} {Q : Option ra_V → ra_M → Prop} {K : Nat → ra_L → List ra_V → ra_M → Prop} (hK : ra_Clo C m_X2_countDue cX2_countDue Q K) {M : ra_M} {nn : Int} (hn : 0 ≤ nn ∧ nn ≤ 60) (hQ : Q (some (vI (cDue (M 29 2) (M 31) nn.toNat))) M) :
    ∀ (n i : Nat) (c : Int), i + n = nn.toNat → c = cDue (M 29 2) (M 31) i → K 4 [some (vR 29), some (vI nn), some (vI c), some (vI (i : Nat))] [] M := by
  intro n
  induction n with
  | zero =>
    intro i c hi hc
    refine k_iln hK (q := 5)  dX2_countDue_4 rfl (z := (i : Nat)) rfl (k_iln hK (q := 6)  dX2_countDue_5 rfl (z := nn) rfl ?_)
    refine k_cge hK (q := 9) (t := 31) dX2_countDue_6 rfl rfl (fun h6 => ?_) (fun h6 => ?_)
    · refine k_iln hK (q := 32)  dX2_countDue_31 rfl (z := c) rfl ?_
      refine k_ir hK dX2_countDue_32 rfl ?_
      have hi2 : i = nn.toNat := by omega
      subst hi2
      subst hc
      exact hQ
    · exact absurd h6 (by omega)
  | succ n ih =>
    intro i c hi hc
    have hci := cDue_in (M 29 2) (M 31) i
    rw [← hc] at hci
    refine k_iln hK (q := 5)  dX2_countDue_4 rfl (z := (i : Nat)) rfl (k_iln hK (q := 6)  dX2_countDue_5 rfl (z := nn) rfl ?_)
    refine k_cge hK (q := 9) (t := 31) dX2_countDue_6 rfl rfl (fun h6 => ?_) (fun h6 => ?_)
    · exact absurd h6 (by omega)
    · refine k_aln hK (q := 10)  dX2_countDue_9 rfl (z := 29) rfl (k_gR hK (q := 13) (r := 31) dX2_countDue_10 rfl rf_X2_15 rfl rfl (k_iln hK (q := 14)  dX2_countDue_13 rfl (z := (i : Nat)) rfl (k_ald hK (q := 15)  dX2_countDue_14 rfl (y := M 31 (i : Nat)) rfl (by omega) rfl (k_aln hK (q := 16)  dX2_countDue_15 rfl (z := 29) rfl (k_gI hK (q := 19) (z := M 29 2) 0 dX2_countDue_16 rfl rf_X2_28 rfl rfl rfl rfl ?_)))))
      refine k_cgt hK (q := 22) (t := 25) dX2_countDue_19 rfl rfl (fun h19 => ?_) (fun h19 => ?_)
      · refine k_inc hK (q := 28)  dX2_countDue_25 rfl (y := (i : Nat) + 1) (L2 := [some (vR 29), some (vI nn), some (vI c), some (vI ((i : Nat) + 1))]) rfl rfl (by omega) rfl (k_goto hK (t := 4) dX2_countDue_28 rfl ?_)
        refine ih (i + 1) _ (by omega) ?_
        simp only [cDue]
        rw [if_neg (by omega)]
        omega
      · refine k_inc hK (q := 25)  dX2_countDue_22 rfl (y := c + 1) (L2 := [some (vR 29), some (vI nn), some (vI (c + 1)), some (vI (i : Nat))]) rfl rfl (by omega) rfl (k_inc hK (q := 28)  dX2_countDue_25 rfl (y := (i : Nat) + 1) (L2 := [some (vR 29), some (vI nn), some (vI (c + 1)), some (vI ((i : Nat) + 1))]) rfl rfl (by omega) rfl (k_goto hK (t := 4) dX2_countDue_28 rfl ?_))
        refine ih (i + 1) _ (by omega) ?_
        simp only [cDue]
        rw [if_pos (by omega)]
        omega

set_option maxRecDepth 20000 in
set_option maxHeartbeats 2000000 in
theorem t_countDue (d : Nat) (M : ra_M) (nn : Int) (hn : 0 ≤ nn ∧ nn ≤ 60) : Ex d m_X2_countDue [vR 29, vI nn] M (fun r M2 => r = some (vI (cDue (M 29 2) (M 31) nn.toNat)) ∧ M2 = M) := by
  refine Ex_leaf (Nat.le_of_ble_eq_true rfl) (fun C K hK => ?_)
  show K 0 [some (vR 29), some (vI nn), none, none] [] M
  have hK : ra_Clo _ m_X2_countDue cX2_countDue _ K := hK
  refine k_ic hK (q := 1)  dX2_countDue_0 rfl (by decide) (k_isn hK (q := 2)  dX2_countDue_1 rfl (L2 := [some (vR 29), some (vI nn), some (vI 0), none]) (Nat.le_of_ble_eq_true rfl) rfl (k_ic hK (q := 3)  dX2_countDue_2 rfl (by decide) (k_isn hK (q := 4)  dX2_countDue_3 rfl (L2 := [some (vR 29), some (vI nn), some (vI 0), some (vI 0)]) (Nat.le_of_ble_eq_true rfl) rfl ?_)))
  exact countDue_loop hK hn ⟨rfl, rfl⟩ nn.toNat 0 0 (by omega) rfl

set_option maxRecDepth 20000 in
set_option maxHeartbeats 2000000 in
theorem dueAt_in {C : Nat → List ra_V → ra_M → (Option ra_V → ra_M → Prop) → Prop} {Q : Option ra_V → ra_M → Prop} {K : Nat → ra_L → List ra_V → ra_M → Prop} (hK : ra_Clo C m_X2_dueAt cX2_dueAt Q K) {M : ra_M} {k nn : Int} (hn : 0 ≤ nn ∧ nn ≤ 60) (hk : 0 ≤ k ∧ k ≤ 2147483647) (hQ : Q (some (vI (dueF nn (M 29 2) (M 30) (M 31) k))) M) {b : Nat} (hb : b ≤ 5)
    (hX : ∀ l : Int, (0 ≤ l ∧ l ≤ k) → dN (M 29 2) (M 30) (M 31) (b : Nat) nn.toNat (dB (M 29 2) (M 30) (M 31) nn.toNat b (k, -1)) = (l, -1) → ∀ z, K 65 [some (vR 29), some (vI k), some (vI nn), some (vI l), some (vI (b : Nat)), some (vI z)] [] M) :
    ∀ (n i : Nat) (l : Int), i + n = nn.toNat → (0 ≤ l ∧ l ≤ k) → dN (M 29 2) (M 30) (M 31) (b : Nat) i (dB (M 29 2) (M 30) (M 31) nn.toNat b (k, -1)) = (l, -1) → K 14 [some (vR 29), some (vI k), some (vI nn), some (vI l), some (vI (b : Nat)), some (vI (i : Nat))] [] M := by
  intro n
  induction n with
  | zero =>
    intro i l hi hl0 hl
    refine k_il hK (q := 16)  dX2_dueAt_14 rfl (z := (i : Nat)) rfl (k_iln hK (q := 17)  dX2_dueAt_16 rfl (z := nn) rfl ?_)
    refine k_cge hK (q := 20) (t := 65) dX2_dueAt_17 rfl rfl (fun h17 => ?_) (fun h17 => ?_)
    · have hi2 : i = nn.toNat := by omega
      subst hi2
      exact hX l hl0 hl _
    · exact absurd h17 (by omega)
  | succ n ih =>
    intro i l hi hl0 hl
    refine k_il hK (q := 16)  dX2_dueAt_14 rfl (z := (i : Nat)) rfl (k_iln hK (q := 17)  dX2_dueAt_16 rfl (z := nn) rfl ?_)
    refine k_cge hK (q := 20) (t := 65) dX2_dueAt_17 rfl rfl (fun h17 => ?_) (fun h17 => ?_)
    · exact absurd h17 (by omega)
    · refine k_aln hK (q := 21)  dX2_dueAt_20 rfl (z := 29) rfl (k_gR hK (q := 24) (r := 30) dX2_dueAt_21 rfl rf_X2_9 rfl rfl (k_il hK (q := 26)  dX2_dueAt_24 rfl (z := (i : Nat)) rfl (k_ald hK (q := 27)  dX2_dueAt_26 rfl (y := M 30 (i : Nat)) rfl (by omega) rfl (k_il hK (q := 29)  dX2_dueAt_27 rfl (z := (b : Nat)) rfl ?_))))
      refine k_cne hK (q := 32) (t := 59) dX2_dueAt_29 rfl rfl (fun h29 => ?_) (fun h29 => ?_)
      · refine k_inc hK (q := 62)  dX2_dueAt_59 rfl (y := (i : Nat) + 1) (L2 := [some (vR 29), some (vI k), some (vI nn), some (vI l), some (vI (b : Nat)), some (vI ((i : Nat) + 1))]) rfl rfl (by omega) rfl (k_goto hK (t := 14) dX2_dueAt_62 rfl ?_)
        refine ih (i + 1) l (by omega) hl0 ?_
        simp only [dN]
        rw [hl]
        unfold dS
        rw [if_neg (by omega)]
      · refine k_aln hK (q := 33)  dX2_dueAt_32 rfl (z := 29) rfl (k_gR hK (q := 36) (r := 31) dX2_dueAt_33 rfl rf_X2_15 rfl rfl (k_il hK (q := 38)  dX2_dueAt_36 rfl (z := (i : Nat)) rfl (k_ald hK (q := 39)  dX2_dueAt_38 rfl (y := M 31 (i : Nat)) rfl (by omega) rfl (k_aln hK (q := 40)  dX2_dueAt_39 rfl (z := 29) rfl (k_gI hK (q := 43) (z := M 29 2) 0 dX2_dueAt_40 rfl rf_X2_28 rfl rfl rfl rfl ?_)))))
        refine k_cle hK (q := 46) (t := 49) dX2_dueAt_43 rfl rfl (fun h43 => ?_) (fun h43 => ?_)
        · refine k_iln hK (q := 50)  dX2_dueAt_49 rfl (z := l) rfl ?_
          refine k_ifne hK (q := 53) (t := 56) dX2_dueAt_50 rfl rfl (fun h50 => ?_) (fun h50 => ?_)
          · refine k_inc hK (q := 59)  dX2_dueAt_56 rfl (y := l + (-1)) (L2 := [some (vR 29), some (vI k), some (vI nn), some (vI (l + (-1))), some (vI (b : Nat)), some (vI (i : Nat))]) rfl rfl (by omega) rfl (k_inc hK (q := 62)  dX2_dueAt_59 rfl (y := (i : Nat) + 1) (L2 := [some (vR 29), some (vI k), some (vI nn), some (vI (l + (-1))), some (vI (b : Nat)), some (vI ((i : Nat) + 1))]) rfl rfl (by omega) rfl (k_goto hK (t := 14) dX2_dueAt_62 rfl ?_))
            refine ih (i + 1) _ (by omega) (by omega) ?_
            simp only [dN]
            rw [hl]
            unfold dS
            rw [if_pos (by omega)]
            simp only
            rw [if_neg h50]
            congr 1
          · refine k_il hK (q := 55)  dX2_dueAt_53 rfl (z := (i : Nat)) rfl ?_
            refine k_ir hK dX2_dueAt_55 rfl ?_
            have hd : dN (M 29 2) (M 30) (M 31) (b : Nat) (i + 1) (dB (M 29 2) (M 30) (M 31) nn.toNat b (k, -1)) = (l - 1, (i : Int)) := by
              simp only [dN]
              rw [hl]
              unfold dS
              rw [if_pos (by omega)]
              simp only
              rw [if_pos h50]
            have g1 := dN_keep (ses := M 29 2) (bx := M 30) (du := M 31) (b := (b : Nat)) (q := dB (M 29 2) (M 30) (M 31) nn.toNat b (k, -1)) (show i + 1 ≤ nn.toNat by omega) (by rw [hd]; simp only; omega)
            have g2 := dB_keep (ses := M 29 2) (bx := M 30) (du := M 31) (nn := nn.toNat) (q := (k, -1)) (show b + 1 ≤ 6 by omega) g1.1
            have g3 : dueF nn (M 29 2) (M 30) (M 31) k = (i : Int) := by
              unfold dueF
              rw [g2.2]
              show (dN (M 29 2) (M 30) (M 31) (b : Nat) nn.toNat (dB (M 29 2) (M 30) (M 31) nn.toNat b (k, -1))).2 = _
              rw [g1.2, hd]
            rw [g3] at hQ
            exact hQ
        · refine k_goto hK (t := 59) dX2_dueAt_46 rfl (k_inc hK (q := 62)  dX2_dueAt_59 rfl (y := (i : Nat) + 1) (L2 := [some (vR 29), some (vI k), some (vI nn), some (vI l), some (vI (b : Nat)), some (vI ((i : Nat) + 1))]) rfl rfl (by omega) rfl (k_goto hK (t := 14) dX2_dueAt_62 rfl ?_))
          refine ih (i + 1) l (by omega) hl0 ?_
          simp only [dN]
          rw [hl]
          unfold dS
          rw [if_neg (by omega)]

set_option maxRecDepth 20000 in
set_option maxHeartbeats 2000000 in
theorem dueAt_out {C : Nat → List ra_V → ra_M → (Option ra_V → ra_M → Prop) → Prop} {Q : Option ra_V → ra_M → Prop} {K : Nat → ra_L → List ra_V → ra_M → Prop} (hK : ra_Clo C m_X2_dueAt cX2_dueAt Q K) {M : ra_M} {k nn : Int} (hn : 0 ≤ nn ∧ nn ≤ 60) (hk : 0 ≤ k ∧ k ≤ 2147483647) (hQ : Q (some (vI (dueF nn (M 29 2) (M 30) (M 31) k))) M) :
    ∀ (n b : Nat) (l : Int), b + n = 6 → (0 ≤ l ∧ l ≤ k) → dB (M 29 2) (M 30) (M 31) nn.toNat b (k, -1) = (l, -1) → K 5 [some (vR 29), some (vI k), some (vI nn), some (vI l), some (vI (b : Nat)), none] [] M := by
  intro n
  induction n with
  | zero =>
    intro b l hb hl0 hl
    refine k_il hK (q := 7)  dX2_dueAt_5 rfl (z := (b : Nat)) rfl (k_ic hK (q := 8)  dX2_dueAt_7 rfl (by decide) ?_)
    refine k_cgt hK (q := 11) (t := 71) dX2_dueAt_8 rfl rfl (fun h8 => ?_) (fun h8 => ?_)
    · refine k_ic hK (q := 72)  dX2_dueAt_71 rfl (by decide) ?_
      refine k_ir hK dX2_dueAt_72 rfl ?_
      have hb2 : b = 6 := by omega
      subst hb2
      have g3 : dueF nn (M 29 2) (M 30) (M 31) k = -1 := by unfold dueF; rw [hl]
      rw [g3] at hQ
      exact hQ
    · exact absurd h8 (by omega)
  | succ n ih =>
    intro b l hb hl0 hl
    refine k_il hK (q := 7)  dX2_dueAt_5 rfl (z := (b : Nat)) rfl (k_ic hK (q := 8)  dX2_dueAt_7 rfl (by decide) ?_)
    refine k_cgt hK (q := 11) (t := 71) dX2_dueAt_8 rfl rfl (fun h8 => ?_) (fun h8 => ?_)
    · exact absurd h8 (by omega)
    · refine k_ic hK (q := 12)  dX2_dueAt_11 rfl (by decide) (k_is hK (q := 14)  dX2_dueAt_12 rfl (L2 := [some (vR 29), some (vI k), some (vI nn), some (vI l), some (vI (b : Nat)), some (vI 0)]) (Nat.le_of_ble_eq_true rfl) rfl ?_)
      refine dueAt_in hK hn hk hQ (b := b) (by omega) (fun l2 hl2 hd2 z => ?_) nn.toNat 0 l (by omega) hl0 (by rw [show dN (M 29 2) (M 30) (M 31) (b : Nat) 0 (dB (M 29 2) (M 30) (M 31) nn.toNat b (k, -1)) = dB (M 29 2) (M 30) (M 31) nn.toNat b (k, -1) from rfl]; exact hl)
      refine k_inc hK (q := 68)  dX2_dueAt_65 rfl (y := (b : Nat) + 1) (L2 := [some (vR 29), some (vI k), some (vI nn), some (vI l2), some (vI ((b : Nat) + 1)), some (vI z)]) rfl rfl (by omega) rfl (k_goto hK (t := 5) dX2_dueAt_68 rfl ?_)
      refine k_weak hK (L2 := [some (vR 29), some (vI k), some (vI nn), some (vI l2), some (vI ((b : Nat) + 1)), none]) ⟨Or.inl rfl, Or.inl rfl, Or.inl rfl, Or.inl rfl, Or.inl rfl, Or.inr rfl, trivial⟩ ?_
      exact ih (b + 1) l2 (by omega) hl2 hd2

set_option maxRecDepth 20000 in
set_option maxHeartbeats 2000000 in
theorem t_dueAt (d : Nat) (M : ra_M) (k nn : Int) (hn : 0 ≤ nn ∧ nn ≤ 60) (hk : 0 ≤ k ∧ k ≤ 2147483647) : Ex d m_X2_dueAt [vR 29, vI k, vI nn] M (fun r M2 => r = some (vI (dueF nn (M 29 2) (M 30) (M 31) k)) ∧ M2 = M) := by
  refine Ex_leaf (Nat.le_of_ble_eq_true rfl) (fun C K hK => ?_)
  show K 0 [some (vR 29), some (vI k), some (vI nn), none, none, none] [] M
  have hK : ra_Clo _ m_X2_dueAt cX2_dueAt _ K := hK
  refine k_iln hK (q := 1)  dX2_dueAt_0 rfl (z := k) rfl (k_isn hK (q := 2)  dX2_dueAt_1 rfl (L2 := [some (vR 29), some (vI k), some (vI nn), some (vI k), none, none]) (Nat.le_of_ble_eq_true rfl) rfl (k_ic hK (q := 3)  dX2_dueAt_2 rfl (by decide) (k_is hK (q := 5)  dX2_dueAt_3 rfl (L2 := [some (vR 29), some (vI k), some (vI nn), some (vI k), some (vI 0), none]) (Nat.le_of_ble_eq_true rfl) rfl ?_)))
  exact dueAt_out hK hn hk ⟨rfl, rfl⟩ 6 0 k (by omega) (by omega) rfl

set_option maxRecDepth 20000 in
set_option maxHeartbeats 2000000 in
theorem t_isTouched (d : Nat) (M : ra_M) (n : Int) (h1 : 0 ≤ n ∧ n < 60) : Ex d m_X1_isTouched [vR 21, vI n] M (fun r M2 => r = some (vI (bi (0 < M 26 n ∨ 0 < M 28 n))) ∧ M2 = M) := by
  refine Ex_leaf (Nat.le_of_ble_eq_true rfl) (fun C K hK => ?_)
  show K 0 [some (vR 21), some (vI n)] [] M
  have hK : ra_Clo _ m_X1_isTouched cX1_isTouched _ K := hK
  refine k_aln hK (q := 1)  dX1_isTouched_0 rfl (z := 21) rfl (k_gR hK (q := 4) (r := 26) dX1_isTouched_1 rfl rf_X1_24 rfl rfl (k_iln hK (q := 5)  dX1_isTouched_4 rfl (z := n) rfl (k_ald hK (q := 6)  dX1_isTouched_5 rfl (y := M 26 n) rfl (by omega) rfl ?_)))
  refine k_ifgt hK (q := 9) (t := 18) dX1_isTouched_6 rfl rfl (fun h6 => ?_) (fun h6 => ?_)
  · refine k_ic hK (q := 19)  dX1_isTouched_18 rfl (by decide) (k_goto hK (t := 23) dX1_isTouched_19 rfl ?_)
    refine k_irz hK dX1_isTouched_23 rfl (by decide) ?_
    first | exact ⟨ri1 (by omega), rfl⟩ | exact ⟨ri0 (by omega), rfl⟩
  · refine k_aln hK (q := 10)  dX1_isTouched_9 rfl (z := 21) rfl (k_gR hK (q := 13) (r := 28) dX1_isTouched_10 rfl rf_X1_30 rfl rfl (k_iln hK (q := 14)  dX1_isTouched_13 rfl (z := n) rfl (k_ald hK (q := 15)  dX1_isTouched_14 rfl (y := M 28 n) rfl (by omega) rfl ?_)))
    refine k_ifle hK (q := 18) (t := 22) dX1_isTouched_15 rfl rfl (fun h15 => ?_) (fun h15 => ?_)
    · refine k_ic hK (q := 23)  dX1_isTouched_22 rfl (by decide) ?_
      refine k_irz hK dX1_isTouched_23 rfl (by decide) ?_
      first | exact ⟨ri1 (by omega), rfl⟩ | exact ⟨ri0 (by omega), rfl⟩
    · refine k_ic hK (q := 19)  dX1_isTouched_18 rfl (by decide) (k_goto hK (t := 23) dX1_isTouched_19 rfl ?_)
      refine k_irz hK dX1_isTouched_23 rfl (by decide) ?_
      first | exact ⟨ri1 (by omega), rfl⟩ | exact ⟨ri0 (by omega), rfl⟩

set_option maxRecDepth 20000 in
set_option maxHeartbeats 2000000 in
theorem t_isFaultless (d : Nat) (M : ra_M) (n : Int) (h1 : 0 ≤ n ∧ n < 60) : Ex d m_X1_isFaultless [vR 21, vI n] M (fun r M2 => r = some (vI (bi (0 < M 26 n ∧ M 27 n = M 26 n ∧ M 28 n = 0))) ∧ M2 = M) := by
  refine Ex_leaf (Nat.le_of_ble_eq_true rfl) (fun C K hK => ?_)
  show K 0 [some (vR 21), some (vI n)] [] M
  have hK : ra_Clo _ m_X1_isFaultless cX1_isFaultless _ K := hK
  refine k_aln hK (q := 1)  dX1_isFaultless_0 rfl (z := 21) rfl (k_gR hK (q := 4) (r := 26) dX1_isFaultless_1 rfl rf_X1_24 rfl rfl (k_iln hK (q := 5)  dX1_isFaultless_4 rfl (z := n) rfl (k_ald hK (q := 6)  dX1_isFaultless_5 rfl (y := M 26 n) rfl (by omega) rfl ?_)))
  refine k_ifle hK (q := 9) (t := 37) dX1_isFaultless_6 rfl rfl (fun h6 => ?_) (fun h6 => ?_)
  · refine k_ic hK (q := 38)  dX1_isFaultless_37 rfl (by decide) ?_
    refine k_irz hK dX1_isFaultless_38 rfl (by decide) ?_
    first | exact ⟨ri1 (by omega), rfl⟩ | exact ⟨ri0 (by omega), rfl⟩
  · refine k_aln hK (q := 10)  dX1_isFaultless_9 rfl (z := 21) rfl (k_gR hK (q := 13) (r := 27) dX1_isFaultless_10 rfl rf_X1_27 rfl rfl (k_iln hK (q := 14)  dX1_isFaultless_13 rfl (z := n) rfl (k_ald hK (q := 15)  dX1_isFaultless_14 rfl (y := M 27 n) rfl (by omega) rfl (k_aln hK (q := 16)  dX1_isFaultless_15 rfl (z := 21) rfl (k_gR hK (q := 19) (r := 26) dX1_isFaultless_16 rfl rf_X1_24 rfl rfl ?_)))))
    refine k_iln hK (q := 20)  dX1_isFaultless_19 rfl (z := n) rfl (k_ald hK (q := 21)  dX1_isFaultless_20 rfl (y := M 26 n) rfl (by omega) rfl ?_)
    refine k_cne hK (q := 24) (t := 37) dX1_isFaultless_21 rfl rfl (fun h21 => ?_) (fun h21 => ?_)
    · refine k_ic hK (q := 38)  dX1_isFaultless_37 rfl (by decide) ?_
      refine k_irz hK dX1_isFaultless_38 rfl (by decide) ?_
      first | exact ⟨ri1 (by omega), rfl⟩ | exact ⟨ri0 (by omega), rfl⟩
    · refine k_aln hK (q := 25)  dX1_isFaultless_24 rfl (z := 21) rfl (k_gR hK (q := 28) (r := 28) dX1_isFaultless_25 rfl rf_X1_30 rfl rfl (k_iln hK (q := 29)  dX1_isFaultless_28 rfl (z := n) rfl (k_ald hK (q := 30)  dX1_isFaultless_29 rfl (y := M 28 n) rfl (by omega) rfl ?_)))
      refine k_ifne hK (q := 33) (t := 37) dX1_isFaultless_30 rfl rfl (fun h30 => ?_) (fun h30 => ?_)
      · refine k_ic hK (q := 38)  dX1_isFaultless_37 rfl (by decide) ?_
        refine k_irz hK dX1_isFaultless_38 rfl (by decide) ?_
        first | exact ⟨ri1 (by omega), rfl⟩ | exact ⟨ri0 (by omega), rfl⟩
      · refine k_ic hK (q := 34)  dX1_isFaultless_33 rfl (by decide) (k_goto hK (t := 38) dX1_isFaultless_34 rfl ?_)
        refine k_irz hK dX1_isFaultless_38 rfl (by decide) ?_
        first | exact ⟨ri1 (by omega), rfl⟩ | exact ⟨ri0 (by omega), rfl⟩

set_option maxRecDepth 20000 in
set_option maxHeartbeats 2000000 in
theorem xc_hearN (d : Nat) (M : ra_M) : Ex (d + 1) m_X7_hearNothing [vR 0] M (fun r M2 => r = none ∧ M2 7 2 = 0 ∧ (∀ j, 0 ≤ j → j ≤ 60 → M2 16 j = v00 j) ∧ M2 15 5 = -1 ∧ M2 18 4 = 0 ∧ M2 21 10 = 0 ∧ frX [7, 15, 16, 18, 21] M M2) := by
  refine Ex_call (Nat.le_of_ble_eq_true rfl) (fun K hK => ?_)
  show K 0 [some (vR 0)] [] M
  have hK : ra_Clo _ m_X7_hearNothing cX7_hearNothing _ K := hK
  refine k_aln hK (q := 1)  dX7_hearNothing_0 rfl (z := 0) rfl (k_gR hK (q := 4) (r := 7) dX7_hearNothing_1 rfl rf_X7_19 rfl rfl (k_ic hK (q := 5)  dX7_hearNothing_4 rfl (by decide) (k_pI hK (q := 8) (M2 := up M 7 2 0) dX7_hearNothing_5 rfl rp_X7_83 rfl rfl rfl (k_aln hK (q := 9)  dX7_hearNothing_8 rfl (z := 0) rfl (k_gR hK (q := 12) (r := 15) dX7_hearNothing_9 rfl rf_X7_37 rfl rfl ?_)))))
  refine k_iv0 hK (q := 15) dX7_hearNothing_12 rfl rm_X7_235 rfl rfl (Nat.le_of_ble_eq_true rfl) (xc_begin _ (up M 7 2 0)) (fun r9 M5 h9 => ?_)
  obtain ⟨rfl, h16, h155, h15j, hf5⟩ := h9
  show K 15 [some (vR 0)] [] M5
  refine k_aln hK (q := 16)  dX7_hearNothing_15 rfl (z := 0) rfl (k_gR hK (q := 19) (r := 18) dX7_hearNothing_16 rfl rf_X7_46 rfl rfl (k_ic hK (q := 20)  dX7_hearNothing_19 rfl (by decide) (k_pI hK (q := 23) (M2 := up M5 18 4 0) dX7_hearNothing_20 rfl rp_X7_165 rfl rfl rfl (k_aln hK (q := 24)  dX7_hearNothing_23 rfl (z := 0) rfl (k_gR hK (q := 27) (r := 21) dX7_hearNothing_24 rfl rf_X7_53 rfl rfl ?_)))))
  refine k_ic hK (q := 28)  dX7_hearNothing_27 rfl (by decide) (k_pZ hK (q := 31) (M2 := up (up M5 18 4 0) 21 10 0) dX7_hearNothing_28 rfl rp_X7_141 rfl rfl (by decide) rfl ?_)
  refine k_vr hK dX7_hearNothing_31 rfl ?_
  refine ⟨rfl, ?_, fun j a b => ?_, ?_, ?_, ?_, fun k hk => ?_⟩
  · rw [up_k _ _ _ (by decide), up_k _ _ _ (by decide), hf5 7 (by decide), up_same]
  · rw [up_k _ _ _ (by decide), up_k _ _ _ (by decide)]; exact h16 j a b
  · rw [up_k _ _ _ (by decide), up_k _ _ _ (by decide)]; exact h155
  · rw [up_k _ _ _ (by decide), up_same]
  · rw [up_same]
  · simp only [List.mem_cons, List.not_mem_nil, or_false, not_or] at hk
    rw [up_k _ _ _ (by omega), up_k _ _ _ (by omega), hf5 k (by simp; omega), up_k _ _ _ (by omega)]

set_option maxRecDepth 20000 in
set_option maxHeartbeats 2000000 in
theorem sumOf_loopa {C : Nat → List ra_V → ra_M → (Option ra_V → ra_M → Prop) → Prop} {Q : Option ra_V → ra_M → Prop} {K : Nat → ra_L → List ra_V → ra_M → Prop} (hK : ra_Clo C m_X7_sumOf cX7_sumOf Q K) {M : ra_M} {nn : Int} (hn : 0 ≤ nn ∧ nn ≤ 60) (hb : ∀ i : Nat, i < 60 → (0 ≤ M 26 (i : Nat) ∧ M 26 (i : Nat) ≤ 7320)) (hQ : Q (some (vI (sumF (M 26) nn.toNat))) M) :
    ∀ (n i : Nat) (c : Int), i + n = nn.toNat → c = sumF (M 26) i → K 4 [some (vR 26), some (vI nn), some (vI c), some (vI (i : Nat))] [] M := by
  have hsb : ∀ i : Nat, i ≤ 60 → 0 ≤ sumF (M 26) i ∧ sumF (M 26) i ≤ 7320 * (i : Nat) := by
    intro i
    induction i with
    | zero => intro _; simp [sumF]
    | succ i ih => intro hi; have h1 := ih (by omega); have h2 := hb i (by omega); simp only [sumF]; omega
  intro n
  induction n with
  | zero =>
    intro i c hi hc
    refine k_iln hK (q := 5)  dX7_sumOf_4 rfl (z := (i : Nat)) rfl (k_iln hK (q := 6)  dX7_sumOf_5 rfl (z := nn) rfl ?_)
    refine k_cge hK (q := 9) (t := 27) dX7_sumOf_6 rfl rfl (fun h6 => ?_) (fun h6 => ?_)
    · refine k_iln hK (q := 28)  dX7_sumOf_27 rfl (z := c) rfl ?_
      refine k_ir hK dX7_sumOf_28 rfl ?_
      have hi2 : i = nn.toNat := by omega
      subst hi2
      subst hc
      exact hQ
    · exact absurd h6 (by omega)
  | succ n ih =>
    intro i c hi hc
    have hci := hsb i (by omega)
    have hbi := hb i (by omega)
    rw [← hc] at hci
    refine k_iln hK (q := 5)  dX7_sumOf_4 rfl (z := (i : Nat)) rfl (k_iln hK (q := 6)  dX7_sumOf_5 rfl (z := nn) rfl ?_)
    refine k_cge hK (q := 9) (t := 27) dX7_sumOf_6 rfl rfl (fun h6 => ?_) (fun h6 => ?_)
    · exact absurd h6 (by omega)
    · refine k_iln hK (q := 10)  dX7_sumOf_9 rfl (z := (i : Nat)) rfl (k_aln hK (q := 11)  dX7_sumOf_10 rfl (z := 26) rfl (k_len hK (q := 12)  dX7_sumOf_11 rfl (z := 60) rfl rfl ?_))
      refine k_cge hK (q := 15) (t := 27) dX7_sumOf_12 rfl rfl (fun h12 => ?_) (fun h12 => ?_)
      · exact absurd h12 (by omega)
      · refine k_iln hK (q := 16)  dX7_sumOf_15 rfl (z := c) rfl (k_aln hK (q := 17)  dX7_sumOf_16 rfl (z := 26) rfl (k_iln hK (q := 18)  dX7_sumOf_17 rfl (z := (i : Nat)) rfl (k_ald hK (q := 19)  dX7_sumOf_18 rfl (y := M 26 (i : Nat)) rfl (by omega) rfl (k_add hK (q := 20)  dX7_sumOf_19 rfl (z := c + (M 26 (i : Nat))) rfl (by omega) (k_isn hK (q := 21)  dX7_sumOf_20 rfl (L2 := [some (vR 26), some (vI nn), some (vI (c + (M 26 (i : Nat)))), some (vI (i : Nat))]) (Nat.le_of_ble_eq_true rfl) rfl ?_)))))
        refine k_inc hK (q := 24)  dX7_sumOf_21 rfl (y := (i : Nat) + 1) (L2 := [some (vR 26), some (vI nn), some (vI (c + (M 26 (i : Nat)))), some (vI ((i : Nat) + 1))]) rfl rfl (by omega) rfl (k_goto hK (t := 4) dX7_sumOf_24 rfl ?_)
        refine ih (i + 1) _ (by omega) ?_
        simp only [sumF]
        rw [hc]

set_option maxRecDepth 20000 in
set_option maxHeartbeats 2000000 in
theorem t_sumOfa (d : Nat) (M : ra_M) (nn : Int) (hn : 0 ≤ nn ∧ nn ≤ 60) (hb : ∀ i : Nat, i < 60 → (0 ≤ M 26 (i : Nat) ∧ M 26 (i : Nat) ≤ 7320)) : Ex d m_X7_sumOf [vR 26, vI nn] M (fun r M2 => r = some (vI (sumF (M 26) nn.toNat)) ∧ M2 = M) := by
  refine Ex_leaf (Nat.le_of_ble_eq_true rfl) (fun C K hK => ?_)
  show K 0 [some (vR 26), some (vI nn), none, none] [] M
  have hK : ra_Clo _ m_X7_sumOf cX7_sumOf _ K := hK
  refine k_ic hK (q := 1)  dX7_sumOf_0 rfl (by decide) (k_isn hK (q := 2)  dX7_sumOf_1 rfl (L2 := [some (vR 26), some (vI nn), some (vI 0), none]) (Nat.le_of_ble_eq_true rfl) rfl (k_ic hK (q := 3)  dX7_sumOf_2 rfl (by decide) (k_isn hK (q := 4)  dX7_sumOf_3 rfl (L2 := [some (vR 26), some (vI nn), some (vI 0), some (vI 0)]) (Nat.le_of_ble_eq_true rfl) rfl ?_)))
  exact sumOf_loopa hK hn hb ⟨rfl, rfl⟩ nn.toNat 0 0 (by omega) rfl

set_option maxRecDepth 20000 in
set_option maxHeartbeats 2000000 in
theorem sumOf_loopb {C : Nat → List ra_V → ra_M → (Option ra_V → ra_M → Prop) → Prop} {Q : Option ra_V → ra_M → Prop} {K : Nat → ra_L → List ra_V → ra_M → Prop} (hK : ra_Clo C m_X7_sumOf cX7_sumOf Q K) {M : ra_M} {nn : Int} (hn : 0 ≤ nn ∧ nn ≤ 60) (hb : ∀ i : Nat, i < 60 → (0 ≤ M 27 (i : Nat) ∧ M 27 (i : Nat) ≤ 7320)) (hQ : Q (some (vI (sumF (M 27) nn.toNat))) M) :
    ∀ (n i : Nat) (c : Int), i + n = nn.toNat → c = sumF (M 27) i → K 4 [some (vR 27), some (vI nn), some (vI c), some (vI (i : Nat))] [] M := by
  have hsb : ∀ i : Nat, i ≤ 60 → 0 ≤ sumF (M 27) i ∧ sumF (M 27) i ≤ 7320 * (i : Nat) := by
    intro i
    induction i with
    | zero => intro _; simp [sumF]
    | succ i ih => intro hi; have h1 := ih (by omega); have h2 := hb i (by omega); simp only [sumF]; omega
  intro n
  induction n with
  | zero =>
    intro i c hi hc
    refine k_iln hK (q := 5)  dX7_sumOf_4 rfl (z := (i : Nat)) rfl (k_iln hK (q := 6)  dX7_sumOf_5 rfl (z := nn) rfl ?_)
    refine k_cge hK (q := 9) (t := 27) dX7_sumOf_6 rfl rfl (fun h6 => ?_) (fun h6 => ?_)
    · refine k_iln hK (q := 28)  dX7_sumOf_27 rfl (z := c) rfl ?_
      refine k_ir hK dX7_sumOf_28 rfl ?_
      have hi2 : i = nn.toNat := by omega
      subst hi2
      subst hc
      exact hQ
    · exact absurd h6 (by omega)
  | succ n ih =>
    intro i c hi hc
    have hci := hsb i (by omega)
    have hbi := hb i (by omega)
    rw [← hc] at hci
    refine k_iln hK (q := 5)  dX7_sumOf_4 rfl (z := (i : Nat)) rfl (k_iln hK (q := 6)  dX7_sumOf_5 rfl (z := nn) rfl ?_)
    refine k_cge hK (q := 9) (t := 27) dX7_sumOf_6 rfl rfl (fun h6 => ?_) (fun h6 => ?_)
    · exact absurd h6 (by omega)
    · refine k_iln hK (q := 10)  dX7_sumOf_9 rfl (z := (i : Nat)) rfl (k_aln hK (q := 11)  dX7_sumOf_10 rfl (z := 27) rfl (k_len hK (q := 12)  dX7_sumOf_11 rfl (z := 60) rfl rfl ?_))
      refine k_cge hK (q := 15) (t := 27) dX7_sumOf_12 rfl rfl (fun h12 => ?_) (fun h12 => ?_)
      · exact absurd h12 (by omega)
      · refine k_iln hK (q := 16)  dX7_sumOf_15 rfl (z := c) rfl (k_aln hK (q := 17)  dX7_sumOf_16 rfl (z := 27) rfl (k_iln hK (q := 18)  dX7_sumOf_17 rfl (z := (i : Nat)) rfl (k_ald hK (q := 19)  dX7_sumOf_18 rfl (y := M 27 (i : Nat)) rfl (by omega) rfl (k_add hK (q := 20)  dX7_sumOf_19 rfl (z := c + (M 27 (i : Nat))) rfl (by omega) (k_isn hK (q := 21)  dX7_sumOf_20 rfl (L2 := [some (vR 27), some (vI nn), some (vI (c + (M 27 (i : Nat)))), some (vI (i : Nat))]) (Nat.le_of_ble_eq_true rfl) rfl ?_)))))
        refine k_inc hK (q := 24)  dX7_sumOf_21 rfl (y := (i : Nat) + 1) (L2 := [some (vR 27), some (vI nn), some (vI (c + (M 27 (i : Nat)))), some (vI ((i : Nat) + 1))]) rfl rfl (by omega) rfl (k_goto hK (t := 4) dX7_sumOf_24 rfl ?_)
        refine ih (i + 1) _ (by omega) ?_
        simp only [sumF]
        rw [hc]

set_option maxRecDepth 20000 in
set_option maxHeartbeats 2000000 in
theorem t_sumOfb (d : Nat) (M : ra_M) (nn : Int) (hn : 0 ≤ nn ∧ nn ≤ 60) (hb : ∀ i : Nat, i < 60 → (0 ≤ M 27 (i : Nat) ∧ M 27 (i : Nat) ≤ 7320)) : Ex d m_X7_sumOf [vR 27, vI nn] M (fun r M2 => r = some (vI (sumF (M 27) nn.toNat)) ∧ M2 = M) := by
  refine Ex_leaf (Nat.le_of_ble_eq_true rfl) (fun C K hK => ?_)
  show K 0 [some (vR 27), some (vI nn), none, none] [] M
  have hK : ra_Clo _ m_X7_sumOf cX7_sumOf _ K := hK
  refine k_ic hK (q := 1)  dX7_sumOf_0 rfl (by decide) (k_isn hK (q := 2)  dX7_sumOf_1 rfl (L2 := [some (vR 27), some (vI nn), some (vI 0), none]) (Nat.le_of_ble_eq_true rfl) rfl (k_ic hK (q := 3)  dX7_sumOf_2 rfl (by decide) (k_isn hK (q := 4)  dX7_sumOf_3 rfl (L2 := [some (vR 27), some (vI nn), some (vI 0), some (vI 0)]) (Nat.le_of_ble_eq_true rfl) rfl ?_)))
  exact sumOf_loopb hK hn hb ⟨rfl, rfl⟩ nn.toNat 0 0 (by omega) rfl
