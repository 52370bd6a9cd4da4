/-! THE LAW: behind its wrappers -/
section LawT
variable {X : EX} {G : EG} {bs Ls o i : Nat} {xs : Nat → Int32} {a a2 : Nat → Nat} {S wd V kd : Nat} {c m c' m' : CS} {f f' : Nat → Int64}
set_option maxRecDepth 100000 in
theorem lt_access (C : EC X G "CacheRulesLaw" code 7) (P : LPx X bs Ls xs i) {cells slots : Nat} (hf : cells ≤ 601000 ∧ slots ≤ 7290000) {k0 r1 : Int32} (hM : Con X.l G y_M_access c_M_access 4 (some .int) (rz 7 168) [.ref (a2 40), .int (xs (i + 1)), .int (xs (i + 2)), .int (bI (!(xs (i + 3) == 0)))] (mF G a2 m.1 m.2) (DI r1 (mF G a2 m'.1 m'.2))) (hk : m'.1 0 = k0) (hr : k0 = 0 → f 0 = r1.toInt64) (KK : EW X G 7 cells slots 923 (LV bs o a a2 i) [] (LW G o a a2 f c m' S wd V kd)) : EW X G 7 cells slots 252 (LV bs o a a2 i) [.int k0] (LW G o a a2 f c m S wd V kd) := by
  obtain ⟨hi, hL⟩ := P.2.2.2.2
  refine e_istore C d_law_252 rfl ?_
  refine e_aload_n C d_law_254 rfl ?_
  refine e_aload_n C d_law_255 rfl ?_
  refine e_iload C d_law_256 rfl ?_
  refine e_iconst C d_law_258 (v := 1) (by decide) ?_
  refine e_iadd C d_law_259 ?_
  refine e_sld C P.1 P.2.1 P.2.2.1 (j := i + 1) (nI_add i 1) (by omega) (by omega) d_law_260 ?_
  refine e_aload_n C d_law_261 rfl ?_
  refine e_iload C d_law_262 rfl ?_
  refine e_iconst C d_law_264 (v := 2) (by decide) ?_
  refine e_iadd C d_law_265 ?_
  refine e_sld C P.1 P.2.1 P.2.2.1 (j := i + 2) (nI_add i 2) (by omega) (by omega) d_law_266 ?_
  refine e_aload_n C d_law_267 rfl ?_
  refine e_iload C d_law_268 rfl ?_
  refine e_iconst C d_law_270 (v := 3) (by decide) ?_
  refine e_iadd C d_law_271 ?_
  refine e_sld C P.1 P.2.1 P.2.2.1 (j := i + 3) (nI_add i 3) (by omega) (by omega) d_law_272 ?_
  refine e_bool C d_law_273 d_law_276 d_law_277 d_law_280 ?_
  refine e_cM C P.2.2.2.1 (hM) rfl g864 g14 g861 g862 g863 d_law_281 rfl ey_M_access rfl rfl (cfit P hf) ?_
  refine e_istore C d_law_284 rfl ?_
  refine e_aload_n C d_law_286 rfl ?_
  refine e_cM C P.2.2.2.1 (k_M_thrown (m := m')) rfl g856 g14 g853 g854 g855 d_law_287 rfl ey_M_thrown rfl rfl (cfit P hf) ?_
  refine e_iload C d_law_290 rfl ?_
  refine e_icmp_eq C d_law_292 (tgt := 297) (by decide) (fun h => ?_) (fun h => absurd hk h)
  refine e_iload C d_law_297 rfl ?_
  refine e_if_ne C d_law_299 (tgt := 314) (by decide) (fun h0 => ?_) (fun h0 => ?_)
  · refine e_goto C d_law_314 (tgt := 923) (by decide) ?_
    exact e_lv2 KK rfl
  · refine e_aload_n C d_law_302 rfl ?_
    refine e_iconst C d_law_303 (v := 0) (by decide) ?_
    refine e_lald C 0 2 d_law_304 rfl rfl 0 rfl (by omega) (by omega) ?_
    refine e_iload C d_law_305 rfl ?_
    refine e_i2l C d_law_307 rfl ?_
    refine e_lcmp C d_law_308 ?_
    refine e_if_eq C d_law_309 (tgt := 314) (by decide) (fun _ => ?_) (fun h => absurd (by rw [hr h0]; exact lg_cmp_self _) h)
    refine e_goto C d_law_314 (tgt := 923) (by decide) ?_
    exact e_lv2 KK rfl
set_option maxRecDepth 100000 in
theorem lt_ask (C : EC X G "CacheRulesLaw" code 7) (P : LPx X bs Ls xs i) {cells slots : Nat} (hf : cells ≤ 601000 ∧ slots ≤ 7290000) {k0 r1 : Int32} (hM : Con X.l G y_M_ask c_M_ask 6 (some .int) (rz 7 168) [.ref (a2 40), .int (xs (i + 1)), .int (xs (i + 2))] (mF G a2 m.1 m.2) (DI r1 (mF G a2 m'.1 m'.2))) (hk : m'.1 0 = k0) (hr : k0 = 0 → f 0 = r1.toInt64) (KK : EW X G 7 cells slots 923 (LV bs o a a2 i) [] (LW G o a a2 f c m' S wd V kd)) : EW X G 7 cells slots 334 (LV bs o a a2 i) [.int k0] (LW G o a a2 f c m S wd V kd) := by
  obtain ⟨hi, hL⟩ := P.2.2.2.2
  refine e_istore C d_law_334 rfl ?_
  refine e_aload_n C d_law_336 rfl ?_
  refine e_aload_n C d_law_337 rfl ?_
  refine e_iload C d_law_338 rfl ?_
  refine e_iconst C d_law_340 (v := 1) (by decide) ?_
  refine e_iadd C d_law_341 ?_
  refine e_sld C P.1 P.2.1 P.2.2.1 (j := i + 1) (nI_add i 1) (by omega) (by omega) d_law_342 ?_
  refine e_aload_n C d_law_343 rfl ?_
  refine e_iload C d_law_344 rfl ?_
  refine e_iconst C d_law_346 (v := 2) (by decide) ?_
  refine e_iadd C d_law_347 ?_
  refine e_sld C P.1 P.2.1 P.2.2.1 (j := i + 2) (nI_add i 2) (by omega) (by omega) d_law_348 ?_
  refine e_cM C P.2.2.2.1 (hM) rfl g989 g14 g986 g987 g988 d_law_349 rfl ey_M_ask rfl rfl (cfit P hf) ?_
  refine e_istore C d_law_352 rfl ?_
  refine e_aload_n C d_law_354 rfl ?_
  refine e_cM C P.2.2.2.1 (k_M_thrown (m := m')) rfl g856 g14 g853 g854 g855 d_law_355 rfl ey_M_thrown rfl rfl (cfit P hf) ?_
  refine e_iload C d_law_358 rfl ?_
  refine e_icmp_eq C d_law_360 (tgt := 365) (by decide) (fun h => ?_) (fun h => absurd hk h)
  refine e_iload C d_law_365 rfl ?_
  refine e_if_ne C d_law_367 (tgt := 382) (by decide) (fun h0 => ?_) (fun h0 => ?_)
  · refine e_goto C d_law_382 (tgt := 923) (by decide) ?_
    exact e_lv2 KK rfl
  · refine e_aload_n C d_law_370 rfl ?_
    refine e_iconst C d_law_371 (v := 0) (by decide) ?_
    refine e_lald C 0 2 d_law_372 rfl rfl 0 rfl (by omega) (by omega) ?_
    refine e_iload C d_law_373 rfl ?_
    refine e_i2l C d_law_375 rfl ?_
    refine e_lcmp C d_law_376 ?_
    refine e_if_eq C d_law_377 (tgt := 382) (by decide) (fun _ => ?_) (fun h => absurd (by rw [hr h0]; exact lg_cmp_self _) h)
    refine e_goto C d_law_382 (tgt := 923) (by decide) ?_
    exact e_lv2 KK rfl
set_option maxRecDepth 100000 in
theorem lt_answer (C : EC X G "CacheRulesLaw" code 7) (P : LPx X bs Ls xs i) {cells slots : Nat} (hf : cells ≤ 601000 ∧ slots ≤ 7290000) {k0 r1 : Int32} (hM : Con X.l G y_M_answer c_M_answer 4 (some .int) (rz 7 168) [.ref (a2 40)] (mF G a2 m.1 m.2) (DI r1 (mF G a2 m'.1 m'.2))) (hk : m'.1 0 = k0) (hr : k0 = 0 → f 0 = r1.toInt64) (KK : EW X G 7 cells slots 923 (LV bs o a a2 i) [] (LW G o a a2 f c m' S wd V kd)) : EW X G 7 cells slots 390 (LV bs o a a2 i) [.int k0] (LW G o a a2 f c m S wd V kd) := by
  obtain ⟨hi, hL⟩ := P.2.2.2.2
  refine e_istore C d_law_390 rfl ?_
  refine e_aload_n C d_law_392 rfl ?_
  refine e_cM C P.2.2.2.1 (hM) rfl g997 g14 g994 g995 g996 d_law_393 rfl ey_M_answer rfl rfl (cfit P hf) ?_
  refine e_istore C d_law_396 rfl ?_
  refine e_aload_n C d_law_398 rfl ?_
  refine e_cM C P.2.2.2.1 (k_M_thrown (m := m')) rfl g856 g14 g853 g854 g855 d_law_399 rfl ey_M_thrown rfl rfl (cfit P hf) ?_
  refine e_iload C d_law_402 rfl ?_
  refine e_icmp_eq C d_law_404 (tgt := 409) (by decide) (fun h => ?_) (fun h => absurd hk h)
  refine e_iload C d_law_409 rfl ?_
  refine e_if_ne C d_law_411 (tgt := 426) (by decide) (fun h0 => ?_) (fun h0 => ?_)
  · refine e_goto C d_law_426 (tgt := 923) (by decide) ?_
    exact e_lv2 KK rfl
  · refine e_aload_n C d_law_414 rfl ?_
    refine e_iconst C d_law_415 (v := 0) (by decide) ?_
    refine e_lald C 0 2 d_law_416 rfl rfl 0 rfl (by omega) (by omega) ?_
    refine e_iload C d_law_417 rfl ?_
    refine e_i2l C d_law_419 rfl ?_
    refine e_lcmp C d_law_420 ?_
    refine e_if_eq C d_law_421 (tgt := 426) (by decide) (fun _ => ?_) (fun h => absurd (by rw [hr h0]; exact lg_cmp_self _) h)
    refine e_goto C d_law_426 (tgt := 923) (by decide) ?_
    exact e_lv2 KK rfl
set_option maxRecDepth 100000 in
theorem lt_answered (C : EC X G "CacheRulesLaw" code 7) (P : LPx X bs Ls xs i) {cells slots : Nat} (hf : cells ≤ 601000 ∧ slots ≤ 7290000) {k0 r1 : Int32} (hM : Con X.l G y_M_answered c_M_answered 3 (some .int) (rz 1 22) [.ref (a2 40), .int (xs (i + 1)), .int (xs (i + 2))] (mF G a2 m.1 m.2) (DI r1 (mF G a2 m'.1 m'.2))) (hk : m'.1 0 = k0) (hr : k0 = 0 → f 0 = r1.toInt64) (KK : EW X G 7 cells slots 923 (LV bs o a a2 i) [] (LW G o a a2 f c m' S wd V kd)) : EW X G 7 cells slots 446 (LV bs o a a2 i) [.int k0] (LW G o a a2 f c m S wd V kd) := by
  obtain ⟨hi, hL⟩ := P.2.2.2.2
  refine e_istore C d_law_446 rfl ?_
  refine e_aload_n C d_law_448 rfl ?_
  refine e_aload_n C d_law_449 rfl ?_
  refine e_iload C d_law_450 rfl ?_
  refine e_iconst C d_law_452 (v := 1) (by decide) ?_
  refine e_iadd C d_law_453 ?_
  refine e_sld C P.1 P.2.1 P.2.2.1 (j := i + 1) (nI_add i 1) (by omega) (by omega) d_law_454 ?_
  refine e_aload_n C d_law_455 rfl ?_
  refine e_iload C d_law_456 rfl ?_
  refine e_iconst C d_law_458 (v := 2) (by decide) ?_
  refine e_iadd C d_law_459 ?_
  refine e_sld C P.1 P.2.1 P.2.2.1 (j := i + 2) (nI_add i 2) (by omega) (by omega) d_law_460 ?_
  refine e_cM C P.2.2.2.1 (hM) rfl g1001 g14 g998 g999 g1000 d_law_461 rfl ey_M_answered rfl rfl (cfit P hf) ?_
  refine e_istore C d_law_464 rfl ?_
  refine e_aload_n C d_law_466 rfl ?_
  refine e_cM C P.2.2.2.1 (k_M_thrown (m := m')) rfl g856 g14 g853 g854 g855 d_law_467 rfl ey_M_thrown rfl rfl (cfit P hf) ?_
  refine e_iload C d_law_470 rfl ?_
  refine e_icmp_eq C d_law_472 (tgt := 477) (by decide) (fun h => ?_) (fun h => absurd hk h)
  refine e_iload C d_law_477 rfl ?_
  refine e_if_ne C d_law_479 (tgt := 494) (by decide) (fun h0 => ?_) (fun h0 => ?_)
  · refine e_goto C d_law_494 (tgt := 923) (by decide) ?_
    exact e_lv2 KK rfl
  · refine e_aload_n C d_law_482 rfl ?_
    refine e_iconst C d_law_483 (v := 0) (by decide) ?_
    refine e_lald C 0 2 d_law_484 rfl rfl 0 rfl (by omega) (by omega) ?_
    refine e_iload C d_law_485 rfl ?_
    refine e_i2l C d_law_487 rfl ?_
    refine e_lcmp C d_law_488 ?_
    refine e_if_eq C d_law_489 (tgt := 494) (by decide) (fun _ => ?_) (fun h => absurd (by rw [hr h0]; exact lg_cmp_self _) h)
    refine e_goto C d_law_494 (tgt := 923) (by decide) ?_
    exact e_lv2 KK rfl
set_option maxRecDepth 100000 in
theorem lt_way (C : EC X G "CacheRulesLaw" code 7) (P : LPx X bs Ls xs i) {cells slots : Nat} (hf : cells ≤ 601000 ∧ slots ≤ 7290000) {k0 r1 : Int32} (hM : Con X.l G y_M_way c_M_way 5 (some .int) (rz 1 22) [.ref (a2 40), .int (xs (i + 1)), .int (xs (i + 2)), .int (xs (i + 3))] (mF G a2 m.1 m.2) (DI r1 (mF G a2 m'.1 m'.2))) (hk : m'.1 0 = k0) (hr : k0 = 0 → f 0 = r1.toInt64) (KK : EW X G 7 cells slots 923 (LV bs o a a2 i) [] (LW G o a a2 f c m' S wd V kd)) : EW X G 7 cells slots 636 (LV bs o a a2 i) [.int k0] (LW G o a a2 f c m S wd V kd) := by
  obtain ⟨hi, hL⟩ := P.2.2.2.2
  refine e_istore C d_law_636 rfl ?_
  refine e_aload_n C d_law_638 rfl ?_
  refine e_aload_n C d_law_639 rfl ?_
  refine e_iload C d_law_640 rfl ?_
  refine e_iconst C d_law_642 (v := 1) (by decide) ?_
  refine e_iadd C d_law_643 ?_
  refine e_sld C P.1 P.2.1 P.2.2.1 (j := i + 1) (nI_add i 1) (by omega) (by omega) d_law_644 ?_
  refine e_aload_n C d_law_645 rfl ?_
  refine e_iload C d_law_646 rfl ?_
  refine e_iconst C d_law_648 (v := 2) (by decide) ?_
  refine e_iadd C d_law_649 ?_
  refine e_sld C P.1 P.2.1 P.2.2.1 (j := i + 2) (nI_add i 2) (by omega) (by omega) d_law_650 ?_
  refine e_aload_n C d_law_651 rfl ?_
  refine e_iload C d_law_652 rfl ?_
  refine e_iconst C d_law_654 (v := 3) (by decide) ?_
  refine e_iadd C d_law_655 ?_
  refine e_sld C P.1 P.2.1 P.2.2.1 (j := i + 3) (nI_add i 3) (by omega) (by omega) d_law_656 ?_
  refine e_cM C P.2.2.2.1 (hM) rfl g1029 g14 g1026 g1027 g1028 d_law_657 rfl ey_M_way rfl rfl (cfit P hf) ?_
  refine e_istore C d_law_660 rfl ?_
  refine e_aload_n C d_law_662 rfl ?_
  refine e_cM C P.2.2.2.1 (k_M_thrown (m := m')) rfl g856 g14 g853 g854 g855 d_law_663 rfl ey_M_thrown rfl rfl (cfit P hf) ?_
  refine e_iload C d_law_666 rfl ?_
  refine e_icmp_eq C d_law_668 (tgt := 673) (by decide) (fun h => ?_) (fun h => absurd hk h)
  refine e_iload C d_law_673 rfl ?_
  refine e_if_ne C d_law_675 (tgt := 690) (by decide) (fun h0 => ?_) (fun h0 => ?_)
  · refine e_goto C d_law_690 (tgt := 923) (by decide) ?_
    exact e_lv2 KK rfl
  · refine e_aload_n C d_law_678 rfl ?_
    refine e_iconst C d_law_679 (v := 0) (by decide) ?_
    refine e_lald C 0 2 d_law_680 rfl rfl 0 rfl (by omega) (by omega) ?_
    refine e_iload C d_law_681 rfl ?_
    refine e_i2l C d_law_683 rfl ?_
    refine e_lcmp C d_law_684 ?_
    refine e_if_eq C d_law_685 (tgt := 690) (by decide) (fun _ => ?_) (fun h => absurd (by rw [hr h0]; exact lg_cmp_self _) h)
    refine e_goto C d_law_690 (tgt := 923) (by decide) ?_
    exact e_lv2 KK rfl
set_option maxRecDepth 100000 in
theorem lt_caught (C : EC X G "CacheRulesLaw" code 7) (P : LPx X bs Ls xs i) {cells slots : Nat} (hf : cells ≤ 601000 ∧ slots ≤ 7290000) {k0 r1 : Int32} (hM : Con X.l G y_M_caught c_M_caught 3 (some .int) (rz 1 22) [.ref (a2 40), .int (xs (i + 1)), .int (xs (i + 2))] (mF G a2 m.1 m.2) (DI r1 (mF G a2 m'.1 m'.2))) (hk : m'.1 0 = k0) (hr : k0 = 0 → f 0 = r1.toInt64) (KK : EW X G 7 cells slots 923 (LV bs o a a2 i) [] (LW G o a a2 f c m' S wd V kd)) : EW X G 7 cells slots 710 (LV bs o a a2 i) [.int k0] (LW G o a a2 f c m S wd V kd) := by
  obtain ⟨hi, hL⟩ := P.2.2.2.2
  refine e_istore C d_law_710 rfl ?_
  refine e_aload_n C d_law_712 rfl ?_
  refine e_aload_n C d_law_713 rfl ?_
  refine e_iload C d_law_714 rfl ?_
  refine e_iconst C d_law_716 (v := 1) (by decide) ?_
  refine e_iadd C d_law_717 ?_
  refine e_sld C P.1 P.2.1 P.2.2.1 (j := i + 1) (nI_add i 1) (by omega) (by omega) d_law_718 ?_
  refine e_aload_n C d_law_719 rfl ?_
  refine e_iload C d_law_720 rfl ?_
  refine e_iconst C d_law_722 (v := 2) (by decide) ?_
  refine e_iadd C d_law_723 ?_
  refine e_sld C P.1 P.2.1 P.2.2.1 (j := i + 2) (nI_add i 2) (by omega) (by omega) d_law_724 ?_
  refine e_cM C P.2.2.2.1 (hM) rfl g1033 g14 g1030 g1031 g1032 d_law_725 rfl ey_M_caught rfl rfl (cfit P hf) ?_
  refine e_istore C d_law_728 rfl ?_
  refine e_aload_n C d_law_730 rfl ?_
  refine e_cM C P.2.2.2.1 (k_M_thrown (m := m')) rfl g856 g14 g853 g854 g855 d_law_731 rfl ey_M_thrown rfl rfl (cfit P hf) ?_
  refine e_iload C d_law_734 rfl ?_
  refine e_icmp_eq C d_law_736 (tgt := 741) (by decide) (fun h => ?_) (fun h => absurd hk h)
  refine e_iload C d_law_741 rfl ?_
  refine e_if_ne C d_law_743 (tgt := 758) (by decide) (fun h0 => ?_) (fun h0 => ?_)
  · refine e_goto C d_law_758 (tgt := 923) (by decide) ?_
    exact e_lv2 KK rfl
  · refine e_aload_n C d_law_746 rfl ?_
    refine e_iconst C d_law_747 (v := 0) (by decide) ?_
    refine e_lald C 0 2 d_law_748 rfl rfl 0 rfl (by omega) (by omega) ?_
    refine e_iload C d_law_749 rfl ?_
    refine e_i2l C d_law_751 rfl ?_
    refine e_lcmp C d_law_752 ?_
    refine e_if_eq C d_law_753 (tgt := 758) (by decide) (fun _ => ?_) (fun h => absurd (by rw [hr h0]; exact lg_cmp_self _) h)
    refine e_goto C d_law_758 (tgt := 923) (by decide) ?_
    exact e_lv2 KK rfl
set_option maxRecDepth 100000 in
theorem lt_next (C : EC X G "CacheRulesLaw" code 7) (P : LPx X bs Ls xs i) {cells slots : Nat} (hf : cells ≤ 601000 ∧ slots ≤ 7290000) {k0 r1 : Int32} (hM : Con X.l G y_M_next c_M_next 5 (some .int) (rz 3 67) [.ref (a2 40), .int (xs (i + 1))] (mF G a2 m.1 m.2) (DI r1 (mF G a2 m'.1 m'.2))) (hk : m'.1 0 = k0) (hr : k0 = 0 → f 0 = r1.toInt64) (KK : EW X G 7 cells slots 923 (LV bs o a a2 i) [] (LW G o a a2 f c m' S wd V kd)) : EW X G 7 cells slots 772 (LV bs o a a2 i) [.int k0] (LW G o a a2 f c m S wd V kd) := by
  obtain ⟨hi, hL⟩ := P.2.2.2.2
  refine e_istore C d_law_772 rfl ?_
  refine e_aload_n C d_law_774 rfl ?_
  refine e_aload_n C d_law_775 rfl ?_
  refine e_iload C d_law_776 rfl ?_
  refine e_iconst C d_law_778 (v := 1) (by decide) ?_
  refine e_iadd C d_law_779 ?_
  refine e_sld C P.1 P.2.1 P.2.2.1 (j := i + 1) (nI_add i 1) (by omega) (by omega) d_law_780 ?_
  refine e_cM C P.2.2.2.1 (hM) rfl g1037 g14 g1034 g1035 g1036 d_law_781 rfl ey_M_next rfl rfl (cfit P hf) ?_
  refine e_istore C d_law_784 rfl ?_
  refine e_aload_n C d_law_786 rfl ?_
  refine e_cM C P.2.2.2.1 (k_M_thrown (m := m')) rfl g856 g14 g853 g854 g855 d_law_787 rfl ey_M_thrown rfl rfl (cfit P hf) ?_
  refine e_iload C d_law_790 rfl ?_
  refine e_icmp_eq C d_law_792 (tgt := 797) (by decide) (fun h => ?_) (fun h => absurd hk h)
  refine e_iload C d_law_797 rfl ?_
  refine e_if_ne C d_law_799 (tgt := 814) (by decide) (fun h0 => ?_) (fun h0 => ?_)
  · refine e_goto C d_law_814 (tgt := 923) (by decide) ?_
    exact e_lv2 KK rfl
  · refine e_aload_n C d_law_802 rfl ?_
    refine e_iconst C d_law_803 (v := 0) (by decide) ?_
    refine e_lald C 0 2 d_law_804 rfl rfl 0 rfl (by omega) (by omega) ?_
    refine e_iload C d_law_805 rfl ?_
    refine e_i2l C d_law_807 rfl ?_
    refine e_lcmp C d_law_808 ?_
    refine e_if_eq C d_law_809 (tgt := 814) (by decide) (fun _ => ?_) (fun h => absurd (by rw [hr h0]; exact lg_cmp_self _) h)
    refine e_goto C d_law_814 (tgt := 923) (by decide) ?_
    exact e_lv2 KK rfl
set_option maxRecDepth 100000 in
theorem lt_misses (C : EC X G "CacheRulesLaw" code 7) (P : LPx X bs Ls xs i) {cells slots : Nat} (hf : cells ≤ 601000 ∧ slots ≤ 7290000) {k0 r1 : Int32} (hM : Con X.l G y_M_misses c_M_misses 4 (some .int) (rz 1 22) [.ref (a2 40), .int (xs (i + 1))] (mF G a2 m.1 m.2) (DI r1 (mF G a2 m'.1 m'.2))) (hk : m'.1 0 = k0) (hr : k0 = 0 → f 0 = r1.toInt64) (KK : EW X G 7 cells slots 923 (LV bs o a a2 i) [] (LW G o a a2 f c m' S wd V kd)) : EW X G 7 cells slots 828 (LV bs o a a2 i) [.int k0] (LW G o a a2 f c m S wd V kd) := by
  obtain ⟨hi, hL⟩ := P.2.2.2.2
  refine e_istore C d_law_828 rfl ?_
  refine e_aload_n C d_law_830 rfl ?_
  refine e_aload_n C d_law_831 rfl ?_
  refine e_iload C d_law_832 rfl ?_
  refine e_iconst C d_law_834 (v := 1) (by decide) ?_
  refine e_iadd C d_law_835 ?_
  refine e_sld C P.1 P.2.1 P.2.2.1 (j := i + 1) (nI_add i 1) (by omega) (by omega) d_law_836 ?_
  refine e_cM C P.2.2.2.1 (hM) rfl g1041 g14 g1038 g1039 g1040 d_law_837 rfl ey_M_misses rfl rfl (cfit P hf) ?_
  refine e_istore C d_law_840 rfl ?_
  refine e_aload_n C d_law_842 rfl ?_
  refine e_cM C P.2.2.2.1 (k_M_thrown (m := m')) rfl g856 g14 g853 g854 g855 d_law_843 rfl ey_M_thrown rfl rfl (cfit P hf) ?_
  refine e_iload C d_law_846 rfl ?_
  refine e_icmp_eq C d_law_848 (tgt := 853) (by decide) (fun h => ?_) (fun h => absurd hk h)
  refine e_iload C d_law_853 rfl ?_
  refine e_if_ne C d_law_855 (tgt := 870) (by decide) (fun h0 => ?_) (fun h0 => ?_)
  · refine e_goto C d_law_870 (tgt := 923) (by decide) ?_
    exact e_lv2 KK rfl
  · refine e_aload_n C d_law_858 rfl ?_
    refine e_iconst C d_law_859 (v := 0) (by decide) ?_
    refine e_lald C 0 2 d_law_860 rfl rfl 0 rfl (by omega) (by omega) ?_
    refine e_iload C d_law_861 rfl ?_
    refine e_i2l C d_law_863 rfl ?_
    refine e_lcmp C d_law_864 ?_
    refine e_if_eq C d_law_865 (tgt := 870) (by decide) (fun _ => ?_) (fun h => absurd (by rw [hr h0]; exact lg_cmp_self _) h)
    refine e_goto C d_law_870 (tgt := 923) (by decide) ?_
    exact e_lv2 KK rfl
end LawT
