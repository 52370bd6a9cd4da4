/-! THE LAW: its loop -/
set_option maxRecDepth 100000 in
theorem law_loop {X : EX} {G : EG} {bs Ls o : Nat} {xs : Nat → Int32} {a a2 : Nat → Nat} {S wd V kd : Nat} (C : EC X G "CacheRulesLaw" code 7) (Z : EH X) (hfl : X.l.flags = pinnedFlags ++ [noTraceFlag]) (hXs : va_X bs Ls xs X.s X.H0) (hbl : bs < X.H0.size) (hbA : ¬ X.A bs) (hX : X.R = room_1) (hL : Ls ≤ 2052)
    (hE : ∀ (lv : List (Nat × Value)) (ws : va_W) (cells slots : Nat), cells ≤ 601024 → slots ≤ 7293000 → EW X G 7 cells slots 930 lv [.int 1] ws) :
    ∀ (n i : Nat) (c m : CS) (f : Nat → Int64), Ls < i + 4 * n → i ≤ 2056 → REL S wd V kd (4 * i) c m → EW X G 7 (100 + i) (4000 + 6 * i) 63 (LV bs o a a2 i) [] (LW G o a a2 f c m S wd V kd) := by
  have head : ∀ (i : Nat) (c m : CS) (f : Nat → Int64), i ≤ 2056 → (i + 4 ≤ Ls → EW X G 7 (100 + i) (4000 + 6 * i) 72 (LV bs o a a2 i) [] (LW G o a a2 f c m S wd V kd)) → EW X G 7 (100 + i) (4000 + 6 * i) 63 (LV bs o a a2 i) [] (LW G o a a2 f c m S wd V kd) := by
    intro i c m f hi k
    refine e_iload C d_law_63 rfl ?_
    refine e_aload_n C d_law_65 rfl ?_
    refine e_slen C hXs hbl hbA d_law_66 ?_
    refine e_iconst C d_law_67 (v := nI 4) (by decide) ?_
    refine e_isub C d_law_68 ?_
    refine e_icmp_gt C d_law_69 (tgt := 929) (by decide) (fun h => ?_) (fun h => ?_)
    · refine e_iconst C d_law_929 (v := 1) (by decide) ?_
      exact hE _ _ _ _ (by omega) (by omega)
    · refine k ?_
      rw [Int32.lt_iff_toInt_lt, pk_sub_toInt (by omega) (by omega), nI_toInt (by omega)] at h
      omega
  intro n
  induction n with
  | zero =>
    intro i c m f hn hi h
    exact head i c m f hi (fun z => by omega)
  | succ n ih =>
    intro i c m f hn hi h
    refine head i c m f hi (fun hi4 => ?_)
    have P : LPx X bs Ls xs i := ⟨hXs, hbl, hbA, hX, hi4, hL⟩
    have hf : 100 + i ≤ 600000 ∧ 4000 + 6 * i ≤ 7280000 := ⟨by omega, by omega⟩
    have hN : 4 * i + 16 < 2 ^ 30 := by omega
    have K : LKx X G bs o i a a2 S wd V kd (4 * i) (100 + i) (4000 + 6 * i) := by
      intro c m f h
      refine e_iinc C d_law_923 rfl (nI_add i 4) rfl ?_
      refine e_goto C d_law_926 (tgt := 63) (by decide) ?_
      have h2 := ih (i + 4) c m f (by omega) (by omega) (by rw [show 4 * (i + 4) = 4 * i + 16 by omega]; exact h)
      exact e_lv2 (e_widen (by omega) (by omega) h2) rfl
    refine e_aload_n C d_law_72 rfl ?_
    refine e_iload C d_law_73 rfl ?_
    refine e_sld C hXs hbl hbA (j := i) rfl (by omega) (by omega) d_law_75 ?_
    refine e_bipush C d_law_76 (v := 15) (by decide) ?_
    refine e_iand C d_law_78 ?_
    refine e_top (y := nI ((xs i).toBitVec.toNat % 2 ^ 4)) (pk_and _ 4 (by decide)) ?_
    have hq : (xs i).toBitVec.toNat % 2 ^ 4 < 16 := Nat.mod_lt _ (by decide)
    generalize (xs i).toBitVec.toNat % 2 ^ 4 = q at hq ⊢
    rcases (by omega : q = 0 ∨ q = 1 ∨ q = 2 ∨ q = 3 ∨ q = 4 ∨ q = 5 ∨ q = 6 ∨ q = 7 ∨ q = 8 ∨ q = 9 ∨ q = 10 ∨ q = 11 ∨ q = 12 ∨ q = 13 ∨ q = 14 ∨ q = 15) with rfl | rfl | rfl | rfl | rfl | rfl | rfl | rfl | rfl | rfl | rfl | rfl | rfl | rfl | rfl | rfl
    · refine e_tableIn C d_law_79 (off := 73) (by decide) (by decide) (by decide) (tgt := 152) (by decide) ?_
      exact lc_mode C P hf h K
    · refine e_tableIn C d_law_79 (off := 142) (by decide) (by decide) (by decide) (tgt := 221) (by decide) ?_
      exact lc_access C Z hfl P hf hN h K
    · refine e_tableIn C d_law_79 (off := 238) (by decide) (by decide) (by decide) (tgt := 317) (by decide) ?_
      exact lc_ask C Z hfl P hf hN h K
    · refine e_tableIn C d_law_79 (off := 306) (by decide) (by decide) (by decide) (tgt := 385) (by decide) ?_
      exact lc_answer C Z hfl P hf hN h K
    · refine e_tableIn C d_law_79 (off := 350) (by decide) (by decide) (by decide) (tgt := 429) (by decide) ?_
      exact lc_answered C Z hfl P hf h K
    · refine e_tableIn C d_law_79 (off := 418) (by decide) (by decide) (by decide) (tgt := 497) (by decide) ?_
      exact lc_lock C P hf h K
    · refine e_tableIn C d_law_79 (off := 471) (by decide) (by decide) (by decide) (tgt := 550) (by decide) ?_
      exact lc_clean C P hf h K
    · refine e_tableIn C d_law_79 (off := 496) (by decide) (by decide) (by decide) (tgt := 575) (by decide) ?_
      exact lc_cleanAll C P hf h K
    · refine e_tableIn C d_law_79 (off := 509) (by decide) (by decide) (by decide) (tgt := 588) (by decide) ?_
      exact lc_drop C P hf h K
    · refine e_tableIn C d_law_79 (off := 534) (by decide) (by decide) (by decide) (tgt := 613) (by decide) ?_
      exact lc_way C Z hfl P hf h K
    · refine e_tableIn C d_law_79 (off := 614) (by decide) (by decide) (by decide) (tgt := 693) (by decide) ?_
      exact lc_caught C Z hfl P hf h K
    · refine e_tableIn C d_law_79 (off := 682) (by decide) (by decide) (by decide) (tgt := 761) (by decide) ?_
      exact lc_next C Z hfl P hf hN h K
    · refine e_tableIn C d_law_79 (off := 738) (by decide) (by decide) (by decide) (tgt := 817) (by decide) ?_
      exact lc_misses C Z hfl P hf h K
    · refine e_tableIn C d_law_79 (off := 794) (by decide) (by decide) (by decide) (tgt := 873) (by decide) ?_
      exact lc_distance C P hf h K
    · refine e_tableIn C d_law_79 (off := 819) (by decide) (by decide) (by decide) (tgt := 898) (by decide) ?_
      exact lc_count C P hf h K
    · refine e_tableOut C d_law_79 (by decide) (tgt := 923) (by decide) ?_
      exact K.k0 (h.mono (by omega))
