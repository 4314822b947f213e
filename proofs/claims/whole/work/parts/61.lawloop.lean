/-! THE LAW: its loop -/
section LAW
variable {p : Program} {l : Launch} {e : Env} {s : State} {m : MethodId} {below : List Frame} {meth : Method} {c : Code} {b L : Nat} {xs : Nat → Int32} {D : va_G} {cA cL : ClassId} {ad : Nat → Nat} {A : Nat → Prop} {qo : Nat} {QF : State → Prop}
set_option maxRecDepth 20000 in
set_option maxHeartbeats 2000000 in
/-- one turn: from the switch to the loop's end -/
theorem lw_turn {f : Nat → Int64} {H : Heap} {locs : List Loc} {cells slots t : Nat} {ls : Array Slot} {M : ra_M} (hst : l.stackTraces = false) (F : lwF p s m c b L xs D cA cL ad A) (I : lwI s D cA cL ad A qo f M H locs) (hl : lv_has ls 7 (lwV b ad qo t)) (h3 : 3 * t + 2 < L) (hc1 : cells + 1 ≤ 601024) (hc2 : slots + 6 ≤ 7293034) (hv : Iv t M) (x : Int32)
    (hk9 : ∀ (f : Nat → Int64) (M : ra_M) (H : Heap) (locs : List Loc) (ls : Array Slot), Iv (t + 1) M → lwI s D cA cL ad A qo f M H locs → lv_has ls 7 (lwV b ad qo t) → W p l e room_1 s m #[Value.ref b] below meth c H locs (cells + 1) (slots + 6) QF (F0 m 739 ls [])) : W p l e room_1 s m #[Value.ref b] below meth c H locs cells slots QF (F0 m 39 ls [.int x]) := by
  obtain ⟨⟨hx, hb, -, -, -⟩, -, -, -, hL, -⟩ := id F
  by_cases hz : x.toInt < 0 ∨ 20 < x.toInt
  · exact lv_tableOut hx hb dL_law_39 hz (tgt := 739) rfl (W.widen (Nat.le_succ _) (Nat.le_add_right _ 6) (hk9 f M H locs ls (Iv_mono hv) I hl))
  · have h1 : ¬ x.toInt < 0 := fun q => hz (Or.inl q)
    have h2 : ¬ 20 < x.toInt := fun q => hz (Or.inr q)
    have h9 : x.toInt = 0 ∨ x.toInt = 1 ∨ x.toInt = 2 ∨ x.toInt = 3 ∨ x.toInt = 4 ∨ x.toInt = 5 ∨ x.toInt = 6 ∨ x.toInt = 7 ∨ x.toInt = 8 ∨ x.toInt = 9 ∨ x.toInt = 10 ∨ x.toInt = 11 ∨ x.toInt = 12 ∨ x.toInt = 13 ∨ x.toInt = 14 ∨ x.toInt = 15 ∨ x.toInt = 16 ∨ x.toInt = 17 ∨ x.toInt = 18 ∨ x.toInt = 19 ∨ x.toInt = 20 := by omega
    rcases h9 with h9 | h9 | h9 | h9 | h9 | h9 | h9 | h9 | h9 | h9 | h9 | h9 | h9 | h9 | h9 | h9 | h9 | h9 | h9 | h9 | h9
    · refine lv_tableIn hx hb dL_law_39 h1 h2 (off := 97) (tgt := 136) (by rw [h9]; rfl) rfl ?_
      exact lw_clear F I hl ⟨by omega, by omega⟩ hv (fun M2 H2 locs2 hI2 I2 => W.widen (Nat.le_succ _) (Nat.le_add_right _ 6) (hk9 f M2 H2 locs2 ls hI2 I2 hl))
    · refine lv_tableIn hx hb dL_law_39 h1 h2 (off := 108) (tgt := 147) (by rw [h9]; rfl) rfl ?_
      exact lw_i2 F I hl h3 ⟨by omega, by omega⟩ dL_law_147 ⟨dL_law_148, dL_law_149, dL_law_151, dL_law_152, dL_law_153⟩ ⟨dL_law_154, dL_law_155, dL_law_157, dL_law_158, dL_law_159⟩ dL_law_160 dL_law_163 ⟨dL_law_164, dL_law_165, dL_law_167, dL_law_168, dL_law_169⟩ ⟨dL_law_170, dL_law_171, dL_law_173, dL_law_174, dL_law_175⟩ dL_law_176 dL_law_179 rfl rm_L_23 rm_L_27 rfl rfl (pr_note t M hv _ _) (fun M2 H2 locs2 hI2 I2 => W.widen (Nat.le_succ _) (Nat.le_add_right _ 6) (hk9 f M2 H2 locs2 ls hI2 I2 hl))
    · refine lv_tableIn hx hb dL_law_39 h1 h2 (off := 145) (tgt := 184) (by rw [h9]; rfl) rfl ?_
      exact lw_i2 F I hl h3 ⟨by omega, by omega⟩ dL_law_184 ⟨dL_law_185, dL_law_186, dL_law_188, dL_law_189, dL_law_190⟩ ⟨dL_law_191, dL_law_192, dL_law_194, dL_law_195, dL_law_196⟩ dL_law_197 dL_law_200 ⟨dL_law_201, dL_law_202, dL_law_204, dL_law_205, dL_law_206⟩ ⟨dL_law_207, dL_law_208, dL_law_210, dL_law_211, dL_law_212⟩ dL_law_213 dL_law_216 rfl rm_L_28 rm_L_31 rfl rfl (pr_way t M hv _ _) (fun M2 H2 locs2 hI2 I2 => W.widen (Nat.le_succ _) (Nat.le_add_right _ 6) (hk9 f M2 H2 locs2 ls hI2 I2 hl))
    · refine lv_tableIn hx hb dL_law_39 h1 h2 (off := 182) (tgt := 221) (by rw [h9]; rfl) rfl ?_
      exact lw_i2 F I hl h3 ⟨by omega, by omega⟩ dL_law_221 ⟨dL_law_222, dL_law_223, dL_law_225, dL_law_226, dL_law_227⟩ ⟨dL_law_228, dL_law_229, dL_law_231, dL_law_232, dL_law_233⟩ dL_law_234 dL_law_237 ⟨dL_law_238, dL_law_239, dL_law_241, dL_law_242, dL_law_243⟩ ⟨dL_law_244, dL_law_245, dL_law_247, dL_law_248, dL_law_249⟩ dL_law_250 dL_law_253 rfl rm_L_32 rm_L_35 rfl rfl (pr_loop t M hv _ _) (fun M2 H2 locs2 hI2 I2 => W.widen (Nat.le_succ _) (Nat.le_add_right _ 6) (hk9 f M2 H2 locs2 ls hI2 I2 hl))
    · refine lv_tableIn hx hb dL_law_39 h1 h2 (off := 219) (tgt := 258) (by rw [h9]; rfl) rfl ?_
      exact lw_i2 F I hl h3 ⟨by omega, by omega⟩ dL_law_258 ⟨dL_law_259, dL_law_260, dL_law_262, dL_law_263, dL_law_264⟩ ⟨dL_law_265, dL_law_266, dL_law_268, dL_law_269, dL_law_270⟩ dL_law_271 dL_law_274 ⟨dL_law_275, dL_law_276, dL_law_278, dL_law_279, dL_law_280⟩ ⟨dL_law_281, dL_law_282, dL_law_284, dL_law_285, dL_law_286⟩ dL_law_287 dL_law_290 rfl rm_L_36 rm_L_39 rfl rfl (pr_cost t M hv _ _) (fun M2 H2 locs2 hI2 I2 => W.widen (Nat.le_succ _) (Nat.le_add_right _ 6) (hk9 f M2 H2 locs2 ls hI2 I2 hl))
    · refine lv_tableIn hx hb dL_law_39 h1 h2 (off := 256) (tgt := 295) (by rw [h9]; rfl) rfl ?_
      exact lw_i1 F I hl h3 ⟨by omega, by omega⟩ dL_law_295 ⟨dL_law_296, dL_law_297, dL_law_299, dL_law_300, dL_law_301⟩ dL_law_302 dL_law_305 ⟨dL_law_306, dL_law_307, dL_law_309, dL_law_310, dL_law_311⟩ dL_law_312 dL_law_315 rfl rm_L_40 rm_L_43 rfl rfl (pr_span t M hv _) (fun M2 H2 locs2 hI2 I2 => W.widen (Nat.le_succ _) (Nat.le_add_right _ 6) (hk9 f M2 H2 locs2 ls hI2 I2 hl))
    · refine lv_tableIn hx hb dL_law_39 h1 h2 (off := 281) (tgt := 320) (by rw [h9]; rfl) rfl ?_
      exact lw_i2 F I hl h3 ⟨by omega, by omega⟩ dL_law_320 ⟨dL_law_321, dL_law_322, dL_law_324, dL_law_325, dL_law_326⟩ ⟨dL_law_327, dL_law_328, dL_law_330, dL_law_331, dL_law_332⟩ dL_law_333 dL_law_336 ⟨dL_law_337, dL_law_338, dL_law_340, dL_law_341, dL_law_342⟩ ⟨dL_law_343, dL_law_344, dL_law_346, dL_law_347, dL_law_348⟩ dL_law_349 dL_law_352 rfl rm_L_44 rm_L_47 rfl rfl (pr_hear t M hv _ _) (fun M2 H2 locs2 hI2 I2 => W.widen (Nat.le_succ _) (Nat.le_add_right _ 6) (hk9 f M2 H2 locs2 ls hI2 I2 hl))
    · refine lv_tableIn hx hb dL_law_39 h1 h2 (off := 318) (tgt := 357) (by rw [h9]; rfl) rfl ?_
      exact lw_i1 F I hl h3 ⟨by omega, by omega⟩ dL_law_357 ⟨dL_law_358, dL_law_359, dL_law_361, dL_law_362, dL_law_363⟩ dL_law_364 dL_law_367 ⟨dL_law_368, dL_law_369, dL_law_371, dL_law_372, dL_law_373⟩ dL_law_374 dL_law_377 rfl rm_L_48 rm_L_51 rfl rfl (pr_cut t M hv _) (fun M2 H2 locs2 hI2 I2 => W.widen (Nat.le_succ _) (Nat.le_add_right _ 6) (hk9 f M2 H2 locs2 ls hI2 I2 hl))
    · refine lv_tableIn hx hb dL_law_39 h1 h2 (off := 343) (tgt := 382) (by rw [h9]; rfl) rfl ?_
      exact lw_i1 F I hl h3 ⟨by omega, by omega⟩ dL_law_382 ⟨dL_law_383, dL_law_384, dL_law_386, dL_law_387, dL_law_388⟩ dL_law_389 dL_law_392 ⟨dL_law_393, dL_law_394, dL_law_396, dL_law_397, dL_law_398⟩ dL_law_399 dL_law_402 rfl rm_L_52 rm_L_55 rfl rfl (pr_valueOf t M hv _) (fun M2 H2 locs2 hI2 I2 => W.widen (Nat.le_succ _) (Nat.le_add_right _ 6) (hk9 f M2 H2 locs2 ls hI2 I2 hl))
    · refine lv_tableIn hx hb dL_law_39 h1 h2 (off := 368) (tgt := 407) (by rw [h9]; rfl) rfl ?_
      exact lw_i1 F I hl h3 ⟨by omega, by omega⟩ dL_law_407 ⟨dL_law_408, dL_law_409, dL_law_411, dL_law_412, dL_law_413⟩ dL_law_414 dL_law_417 ⟨dL_law_418, dL_law_419, dL_law_421, dL_law_422, dL_law_423⟩ dL_law_424 dL_law_427 rfl rm_L_56 rm_L_59 rfl rfl (pr_tempo t M hv _) (fun M2 H2 locs2 hI2 I2 => W.widen (Nat.le_succ _) (Nat.le_add_right _ 6) (hk9 f M2 H2 locs2 ls hI2 I2 hl))
    · refine lv_tableIn hx hb dL_law_39 h1 h2 (off := 393) (tgt := 432) (by rw [h9]; rfl) rfl ?_
      exact lw_ahead F I hl h3 ⟨by omega, by omega⟩ hv (fun M2 H2 locs2 hI2 I2 => W.widen (Nat.le_succ _) (Nat.le_add_right _ 6) (hk9 f M2 H2 locs2 ls hI2 I2 hl))
    · refine lv_tableIn hx hb dL_law_39 h1 h2 (off := 419) (tgt := 458) (by rw [h9]; rfl) rfl ?_
      exact lw_i0 F I hl ⟨by omega, by omega⟩ dL_law_458 dL_law_459 dL_law_462 dL_law_463 dL_law_466 rfl rm_L_65 rm_L_69 rfl rfl (pr_align t M hv) (fun M2 H2 locs2 hI2 I2 => W.widen (Nat.le_succ _) (Nat.le_add_right _ 6) (hk9 f M2 H2 locs2 ls hI2 I2 hl))
    · refine lv_tableIn hx hb dL_law_39 h1 h2 (off := 432) (tgt := 471) (by rw [h9]; rfl) rfl ?_
      exact lw_i2 F I hl h3 ⟨by omega, by omega⟩ dL_law_471 ⟨dL_law_472, dL_law_473, dL_law_475, dL_law_476, dL_law_477⟩ ⟨dL_law_478, dL_law_479, dL_law_481, dL_law_482, dL_law_483⟩ dL_law_484 dL_law_487 ⟨dL_law_488, dL_law_489, dL_law_491, dL_law_492, dL_law_493⟩ ⟨dL_law_494, dL_law_495, dL_law_497, dL_law_498, dL_law_499⟩ dL_law_500 dL_law_503 rfl rm_L_70 rm_L_73 rfl rfl (pr_step t M hv _ _) (fun M2 H2 locs2 hI2 I2 => W.widen (Nat.le_succ _) (Nat.le_add_right _ 6) (hk9 f M2 H2 locs2 ls hI2 I2 hl))
    · refine lv_tableIn hx hb dL_law_39 h1 h2 (off := 469) (tgt := 508) (by rw [h9]; rfl) rfl ?_
      exact lw_i0 F I hl ⟨by omega, by omega⟩ dL_law_508 dL_law_509 dL_law_512 dL_law_513 dL_law_516 rfl rm_L_74 rm_L_77 rfl rfl (pr_steps t M hv) (fun M2 H2 locs2 hI2 I2 => W.widen (Nat.le_succ _) (Nat.le_add_right _ 6) (hk9 f M2 H2 locs2 ls hI2 I2 hl))
    · refine lv_tableIn hx hb dL_law_39 h1 h2 (off := 482) (tgt := 521) (by rw [h9]; rfl) rfl ?_
      exact lw_i1 F I hl h3 ⟨by omega, by omega⟩ dL_law_521 ⟨dL_law_522, dL_law_523, dL_law_525, dL_law_526, dL_law_527⟩ dL_law_528 dL_law_531 ⟨dL_law_532, dL_law_533, dL_law_535, dL_law_536, dL_law_537⟩ dL_law_538 dL_law_541 rfl rm_L_78 rm_L_81 rfl rfl (pr_matched t M hv _) (fun M2 H2 locs2 hI2 I2 => W.widen (Nat.le_succ _) (Nat.le_add_right _ 6) (hk9 f M2 H2 locs2 ls hI2 I2 hl))
    · refine lv_tableIn hx hb dL_law_39 h1 h2 (off := 507) (tgt := 546) (by rw [h9]; rfl) rfl ?_
      exact lw_i2 F I hl h3 ⟨by omega, by omega⟩ dL_law_546 ⟨dL_law_547, dL_law_548, dL_law_550, dL_law_551, dL_law_552⟩ ⟨dL_law_553, dL_law_554, dL_law_556, dL_law_557, dL_law_558⟩ dL_law_559 dL_law_562 ⟨dL_law_563, dL_law_564, dL_law_566, dL_law_567, dL_law_568⟩ ⟨dL_law_569, dL_law_570, dL_law_572, dL_law_573, dL_law_574⟩ dL_law_575 dL_law_578 rfl rm_L_82 rm_L_85 rfl rfl (pr_grade t M hv _ _) (fun M2 H2 locs2 hI2 I2 => W.widen (Nat.le_succ _) (Nat.le_add_right _ 6) (hk9 f M2 H2 locs2 ls hI2 I2 hl))
    · refine lv_tableIn hx hb dL_law_39 h1 h2 (off := 544) (tgt := 583) (by rw [h9]; rfl) rfl ?_
      exact lw_mean hst F I hl h3 ⟨by omega, by omega⟩ hv hk9
    · refine lv_tableIn hx hb dL_law_39 h1 h2 (off := 600) (tgt := 639) (by rw [h9]; rfl) rfl ?_
      exact lw_i0 F I hl ⟨by omega, by omega⟩ dL_law_639 dL_law_640 dL_law_643 dL_law_644 dL_law_647 rfl rm_L_95 rm_L_98 rfl rfl (pr_end t M hv (by omega)) (fun M2 H2 locs2 hI2 I2 => W.widen (Nat.le_succ _) (Nat.le_add_right _ 6) (hk9 f M2 H2 locs2 ls hI2 I2 hl))
    · refine lv_tableIn hx hb dL_law_39 h1 h2 (off := 613) (tgt := 652) (by rw [h9]; rfl) rfl ?_
      exact lw_i1 F I hl h3 ⟨by omega, by omega⟩ dL_law_652 ⟨dL_law_653, dL_law_654, dL_law_656, dL_law_657, dL_law_658⟩ dL_law_659 dL_law_662 ⟨dL_law_663, dL_law_664, dL_law_666, dL_law_667, dL_law_668⟩ dL_law_669 dL_law_672 rfl rm_L_99 rm_L_102 rfl rfl (pr_due t M hv _ (lw_in32 _).2) (fun M2 H2 locs2 hI2 I2 => W.widen (Nat.le_succ _) (Nat.le_add_right _ 6) (hk9 f M2 H2 locs2 ls hI2 I2 hl))
    · refine lv_tableIn hx hb dL_law_39 h1 h2 (off := 638) (tgt := 677) (by rw [h9]; rfl) rfl ?_
      exact lw_i2 F I hl h3 ⟨by omega, by omega⟩ dL_law_677 ⟨dL_law_678, dL_law_679, dL_law_681, dL_law_682, dL_law_683⟩ ⟨dL_law_684, dL_law_685, dL_law_687, dL_law_688, dL_law_689⟩ dL_law_690 dL_law_693 ⟨dL_law_694, dL_law_695, dL_law_697, dL_law_698, dL_law_699⟩ ⟨dL_law_700, dL_law_701, dL_law_703, dL_law_704, dL_law_705⟩ dL_law_706 dL_law_709 rfl rm_L_103 rm_L_106 rfl rfl (pr_of t M hv _ _) (fun M2 H2 locs2 hI2 I2 => W.widen (Nat.le_succ _) (Nat.le_add_right _ 6) (hk9 f M2 H2 locs2 ls hI2 I2 hl))
    · refine lv_tableIn hx hb dL_law_39 h1 h2 (off := 675) (tgt := 714) (by rw [h9]; rfl) rfl ?_
      exact lw_i1 F I hl h3 ⟨by omega, by omega⟩ dL_law_714 ⟨dL_law_715, dL_law_716, dL_law_718, dL_law_719, dL_law_720⟩ dL_law_721 dL_law_724 ⟨dL_law_725, dL_law_726, dL_law_728, dL_law_729, dL_law_730⟩ dL_law_731 dL_law_734 rfl rm_L_107 rm_L_110 rfl rfl (pr_told t M hv _) (fun M2 H2 locs2 hI2 I2 => W.widen (Nat.le_succ _) (Nat.le_add_right _ 6) (hk9 f M2 H2 locs2 ls hI2 I2 hl))
set_option maxRecDepth 20000 in
set_option maxHeartbeats 2000000 in
theorem lw_loop (hst : l.stackTraces = false) (F : lwF p s m c b L xs D cA cL ad A) (hxit : ∀ (f : Nat → Int64) (M : ra_M) (H : Heap) (locs : List Loc) (ls : Array Slot) (cells slots : Nat), cells ≤ 601024 → slots ≤ 7293034 → lwI s D cA cL ad A qo f M H locs → W p l e room_1 s m #[Value.ref b] below meth c H locs cells slots QF (F0 m 745 ls [])) :
    ∀ (k t : Nat) (f : Nat → Int64) (M : ra_M) (H : Heap) (locs : List Loc) (ls : Array Slot) (cells slots : Nat), L < 3 * (t + k) + 3 → cells + k ≤ 601024 → slots + 6 * k ≤ 7293034 → t ≤ 512 → Iv t M → lwI s D cA cL ad A qo f M H locs → lv_has ls 7 (lwV b ad qo t) →
      W p l e room_1 s m #[Value.ref b] below meth c H locs cells slots QF (F0 m 23 ls []) := by
  intro k
  induction k with
  | zero =>
    intro t f M H locs ls cells slots hk hc1 hc2 ht hv I hl
    obtain ⟨⟨hx, hb, -, -, -⟩, hX, hbl, hbA, hL, -⟩ := id F
    have hS := I.2.2.2
    have o1 : in32 (3 * (t : Int)) := ⟨by omega, by omega⟩
    have o2 : in32 ((L : Int) - 3) := ⟨by omega, by omega⟩
    refine lv_iload hx hb dL_law_23 (lv_at hl 4 rfl) ?_
    refine lv_aload_n hx hb dL_law_25 rfl (lv_at hl 0 rfl) ?_
    refine va_slen hx hb hX hbl hbA hS dL_law_26 ?_
    rw [← Int32.ofInt_eq_ofNat]
    refine lv_iconst (v := Int32.ofInt 3) hx hb dL_law_27 rfl ?_
    refine lv_isub hx hb dL_law_28 ?_
    rw [← Int32.ofInt_sub]
    refine lv_icmp_gt hx hb dL_law_29 (tgt := 745) rfl (fun _ => hxit f M H locs ls cells slots (by omega) (by omega) I) (fun q => absurd ((ra_lt o2 o1).mpr (by omega)) q)
  | succ k ih =>
    intro t f M H locs ls cells slots hk hc1 hc2 ht hv I hl
    obtain ⟨⟨hx, hb, -, -, -⟩, hX, hbl, hbA, hL, -⟩ := id F
    have hS := I.2.2.2
    have o1 : in32 (3 * (t : Int)) := ⟨by omega, by omega⟩
    have o2 : in32 ((L : Int) - 3) := ⟨by omega, by omega⟩
    refine lv_iload hx hb dL_law_23 (lv_at hl 4 rfl) ?_
    refine lv_aload_n hx hb dL_law_25 rfl (lv_at hl 0 rfl) ?_
    refine va_slen hx hb hX hbl hbA hS dL_law_26 ?_
    rw [← Int32.ofInt_eq_ofNat]
    refine lv_iconst (v := Int32.ofInt 3) hx hb dL_law_27 rfl ?_
    refine lv_isub hx hb dL_law_28 ?_
    rw [← Int32.ofInt_sub]
    refine lv_icmp_gt hx hb dL_law_29 (tgt := 745) rfl (fun _ => hxit f M H locs ls cells slots (by omega) (by omega) I) (fun q => ?_)
    have h3 : ¬ ((L : Int) - 3 < 3 * (t : Int)) := fun z => q ((ra_lt o2 o1).mpr z)
    have h4 : 3 * t + 2 < L := by omega
    refine lv_aload_n hx hb dL_law_32 rfl (lv_at hl 0 rfl) ?_
    refine lv_iload hx hb dL_law_33 (lv_at hl 4 rfl) ?_
    refine va_sld hx hb hX hbl hbA hS (ra_vin o1 (by omega) (by omega)) dL_law_35 ?_
    refine lv_bipush (v := 31) hx hb dL_law_36 (by decide) ?_
    refine lv_iand hx hb dL_law_38 ?_
    refine lw_turn hst F I hl h4 (by omega) (by omega) hv _ (fun f2 M2 H2 locs2 ls2 hI2 I2 hl2 => ?_)
    have e9 : 3 * (t : Int) + 3 = 3 * ((t + 1 : Nat) : Int) := by omega
    refine lv_iinc hx hb dL_law_739 hl2 (k := 4) rfl (v := Int32.ofInt (3 * ((t + 1 : Nat) : Int))) (by rw [← Int32.ofInt_add, e9]) (Nat.le_of_ble_eq_true rfl) rfl (fun ls3 hl3 => ?_)
    refine lv_goto hx hb dL_law_742 (tgt := 23) rfl ?_
    refine ih (t + 1) f2 M2 H2 locs2 ls3 (cells + 1) (slots + 6) (by omega) (by omega) (by omega) (by omega) hI2 I2 (lv_mem hl3 (fun q hq => ?_))
    simp only [lwV, List.mem_cons, List.not_mem_nil, or_false] at hq
    rcases hq with rfl | rfl | rfl | rfl | rfl
    · exact List.mem_cons_of_mem _ (List.mem_cons_self)
    · exact List.mem_cons_of_mem _ (List.mem_cons_of_mem _ List.mem_cons_self)
    · exact List.mem_cons_of_mem _ (List.mem_cons_of_mem _ (List.mem_cons_of_mem _ List.mem_cons_self))
    · exact List.mem_cons_of_mem _ (List.mem_cons_of_mem _ (List.mem_cons_of_mem _ (List.mem_cons_of_mem _ List.mem_cons_self)))
    · exact List.mem_cons_self
end LAW
