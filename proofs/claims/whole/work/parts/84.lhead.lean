/-! THE LAW: calls of wrappers; direct cases -/
section LawT
variable {X : EX} {G : EG} {bs Ls o i : Nat} {xs : Nat → Int32} {a a2 : Nat → Nat} {S wd V kd : Nat} {c m c' m' : CS} {f f' : Nat → Int64}
set_option maxRecDepth 100000 in
theorem lh_access (C : EC X G "CacheRulesLaw" code 7) (Z : EH X) (P : LPx X bs Ls xs i) {cells slots ce sl fr lo : Nat} (hf : cells + ce ≤ 601000 ∧ slots + sl ≤ 7290000) {k0 : Int32} (hM : ConZ X.l G y_L_access c_L_access 6 (some .int) [(0, 12, 15, 13)] (rc fr ce sl lo) [.ref (a 0), .int (xs (i + 1)), .int (xs (i + 2)), .int (bI (!(xs (i + 3) == 0))), .ref o] ([(o, aJ G.2.2.2 1 f)] ++ wK G a c S wd V kd) (DI k0 ([(o, aJ G.2.2.2 1 f')] ++ wK G a c' S wd V kd))) (hR : eR (rc fr ce sl lo) room_1 6 = true) (KK : EW X G 7 (cells + ce) (slots + sl) 252 (LV bs o a a2 i) [.int k0] (LW G o a a2 f' c' m S wd V kd)) : EW X G 7 cells slots 221 (LV bs o a a2 i) [] (LW G o a a2 f c m S wd V kd) := by
  obtain ⟨hi, hL⟩ := P.2.2.2.2
  refine e_aload_n C d_law_221 rfl ?_
  refine e_aload_n C d_law_222 rfl ?_
  refine e_iload C d_law_223 rfl ?_
  refine e_iconst C d_law_225 (v := 1) (by decide) ?_
  refine e_iadd C d_law_226 ?_
  refine e_sld C P.1 P.2.1 P.2.2.1 (j := i + 1) (nI_add i 1) (by omega) (by omega) d_law_227 ?_
  refine e_aload_n C d_law_228 rfl ?_
  refine e_iload C d_law_229 rfl ?_
  refine e_iconst C d_law_231 (v := 2) (by decide) ?_
  refine e_iadd C d_law_232 ?_
  refine e_sld C P.1 P.2.1 P.2.2.1 (j := i + 2) (nI_add i 2) (by omega) (by omega) d_law_233 ?_
  refine e_aload_n C d_law_234 rfl ?_
  refine e_iload C d_law_235 rfl ?_
  refine e_iconst C d_law_237 (v := 3) (by decide) ?_
  refine e_iadd C d_law_238 ?_
  refine e_sld C P.1 P.2.1 P.2.2.1 (j := i + 3) (nI_add i 3) (by omega) (by omega) d_law_239 ?_
  refine e_bool C d_law_240 d_law_243 d_law_244 d_law_247 ?_
  refine e_aload_n C d_law_248 rfl ?_
  refine e_cZ C Z P.2.2.2.1 (hM) (gt_at 374 (by decide +kernel) (by decide +kernel)) g0 g372 g373 d_law_249 rfl ey_L_access hR rfl (by show _ ≤ 601024; omega) (by show _ ≤ 7293000; omega) (fun r u hB => ?_)
  obtain ⟨rfl, rfl⟩ := hB
  exact KK
set_option maxRecDepth 100000 in
theorem lh_ask (C : EC X G "CacheRulesLaw" code 7) (Z : EH X) (P : LPx X bs Ls xs i) {cells slots ce sl fr lo : Nat} (hf : cells + ce ≤ 601000 ∧ slots + sl ≤ 7290000) {k0 : Int32} (hM : ConZ X.l G y_L_ask c_L_ask 5 (some .int) [(0, 10, 13, 13), (0, 10, 17, 19)] (rc fr ce sl lo) [.ref (a 0), .int (xs (i + 1)), .int (xs (i + 2)), .ref o] ([(o, aJ G.2.2.2 1 f)] ++ wK G a c S wd V kd) (DI k0 ([(o, aJ G.2.2.2 1 f')] ++ wK G a c' S wd V kd))) (hR : eR (rc fr ce sl lo) room_1 5 = true) (KK : EW X G 7 (cells + ce) (slots + sl) 334 (LV bs o a a2 i) [.int k0] (LW G o a a2 f' c' m S wd V kd)) : EW X G 7 cells slots 317 (LV bs o a a2 i) [] (LW G o a a2 f c m S wd V kd) := by
  obtain ⟨hi, hL⟩ := P.2.2.2.2
  refine e_aload_n C d_law_317 rfl ?_
  refine e_aload_n C d_law_318 rfl ?_
  refine e_iload C d_law_319 rfl ?_
  refine e_iconst C d_law_321 (v := 1) (by decide) ?_
  refine e_iadd C d_law_322 ?_
  refine e_sld C P.1 P.2.1 P.2.2.1 (j := i + 1) (nI_add i 1) (by omega) (by omega) d_law_323 ?_
  refine e_aload_n C d_law_324 rfl ?_
  refine e_iload C d_law_325 rfl ?_
  refine e_iconst C d_law_327 (v := 2) (by decide) ?_
  refine e_iadd C d_law_328 ?_
  refine e_sld C P.1 P.2.1 P.2.2.1 (j := i + 2) (nI_add i 2) (by omega) (by omega) d_law_329 ?_
  refine e_aload_n C d_law_330 rfl ?_
  refine e_cZ C Z P.2.2.2.1 (hM) (gt_at 612 (by decide +kernel) (by decide +kernel)) g0 g610 g611 d_law_331 rfl ey_L_ask hR rfl (by show _ ≤ 601024; omega) (by show _ ≤ 7293000; omega) (fun r u hB => ?_)
  obtain ⟨rfl, rfl⟩ := hB
  exact KK
set_option maxRecDepth 100000 in
theorem lh_answer (C : EC X G "CacheRulesLaw" code 7) (Z : EH X) (P : LPx X bs Ls xs i) {cells slots ce sl fr lo : Nat} (hf : cells + ce ≤ 601000 ∧ slots + sl ≤ 7290000) {k0 : Int32} (hM : ConZ X.l G y_L_answer c_L_answer 3 (some .int) [(0, 8, 11, 25)] (rc fr ce sl lo) [.ref (a 0), .ref o] ([(o, aJ G.2.2.2 1 f)] ++ wK G a c S wd V kd) (DI k0 ([(o, aJ G.2.2.2 1 f')] ++ wK G a c' S wd V kd))) (hR : eR (rc fr ce sl lo) room_1 3 = true) (KK : EW X G 7 (cells + ce) (slots + sl) 390 (LV bs o a a2 i) [.int k0] (LW G o a a2 f' c' m S wd V kd)) : EW X G 7 cells slots 385 (LV bs o a a2 i) [] (LW G o a a2 f c m S wd V kd) := by
  obtain ⟨hi, hL⟩ := P.2.2.2.2
  refine e_aload_n C d_law_385 rfl ?_
  refine e_aload_n C d_law_386 rfl ?_
  refine e_cZ C Z P.2.2.2.1 (hM) (gt_at 648 (by decide +kernel) (by decide +kernel)) g0 g646 g647 d_law_387 rfl ey_L_answer hR rfl (by show _ ≤ 601024; omega) (by show _ ≤ 7293000; omega) (fun r u hB => ?_)
  obtain ⟨rfl, rfl⟩ := hB
  exact KK
set_option maxRecDepth 100000 in
theorem lh_answered (C : EC X G "CacheRulesLaw" code 7) (Z : EH X) (P : LPx X bs Ls xs i) {cells slots ce sl fr lo : Nat} (hf : cells + ce ≤ 601000 ∧ slots + sl ≤ 7290000) {k0 : Int32} (hM : ConZ X.l G y_L_answered c_L_answered 5 (some .int) [(0, 10, 13, 13)] (rc fr ce sl lo) [.ref (a 0), .int (xs (i + 1)), .int (xs (i + 2)), .ref o] ([(o, aJ G.2.2.2 1 f)] ++ wK G a c S wd V kd) (DI k0 ([(o, aJ G.2.2.2 1 f')] ++ wK G a c' S wd V kd))) (hR : eR (rc fr ce sl lo) room_1 5 = true) (KK : EW X G 7 (cells + ce) (slots + sl) 446 (LV bs o a a2 i) [.int k0] (LW G o a a2 f' c' m S wd V kd)) : EW X G 7 cells slots 429 (LV bs o a a2 i) [] (LW G o a a2 f c m S wd V kd) := by
  obtain ⟨hi, hL⟩ := P.2.2.2.2
  refine e_aload_n C d_law_429 rfl ?_
  refine e_aload_n C d_law_430 rfl ?_
  refine e_iload C d_law_431 rfl ?_
  refine e_iconst C d_law_433 (v := 1) (by decide) ?_
  refine e_iadd C d_law_434 ?_
  refine e_sld C P.1 P.2.1 P.2.2.1 (j := i + 1) (nI_add i 1) (by omega) (by omega) d_law_435 ?_
  refine e_aload_n C d_law_436 rfl ?_
  refine e_iload C d_law_437 rfl ?_
  refine e_iconst C d_law_439 (v := 2) (by decide) ?_
  refine e_iadd C d_law_440 ?_
  refine e_sld C P.1 P.2.1 P.2.2.1 (j := i + 2) (nI_add i 2) (by omega) (by omega) d_law_441 ?_
  refine e_aload_n C d_law_442 rfl ?_
  refine e_cZ C Z P.2.2.2.1 (hM) (gt_at 676 (by decide +kernel) (by decide +kernel)) g0 g674 g675 d_law_443 rfl ey_L_answered hR rfl (by show _ ≤ 601024; omega) (by show _ ≤ 7293000; omega) (fun r u hB => ?_)
  obtain ⟨rfl, rfl⟩ := hB
  exact KK
set_option maxRecDepth 100000 in
theorem lh_way (C : EC X G "CacheRulesLaw" code 7) (Z : EH X) (P : LPx X bs Ls xs i) {cells slots ce sl fr lo : Nat} (hf : cells + ce ≤ 601000 ∧ slots + sl ≤ 7290000) {k0 : Int32} (hM : ConZ X.l G y_L_way c_L_way 6 (some .int) [(0, 12, 15, 13)] (rc fr ce sl lo) [.ref (a 0), .int (xs (i + 1)), .int (xs (i + 2)), .int (xs (i + 3)), .ref o] ([(o, aJ G.2.2.2 1 f)] ++ wK G a c S wd V kd) (DI k0 ([(o, aJ G.2.2.2 1 f')] ++ wK G a c' S wd V kd))) (hR : eR (rc fr ce sl lo) room_1 6 = true) (KK : EW X G 7 (cells + ce) (slots + sl) 636 (LV bs o a a2 i) [.int k0] (LW G o a a2 f' c' m S wd V kd)) : EW X G 7 cells slots 613 (LV bs o a a2 i) [] (LW G o a a2 f c m S wd V kd) := by
  obtain ⟨hi, hL⟩ := P.2.2.2.2
  refine e_aload_n C d_law_613 rfl ?_
  refine e_aload_n C d_law_614 rfl ?_
  refine e_iload C d_law_615 rfl ?_
  refine e_iconst C d_law_617 (v := 1) (by decide) ?_
  refine e_iadd C d_law_618 ?_
  refine e_sld C P.1 P.2.1 P.2.2.1 (j := i + 1) (nI_add i 1) (by omega) (by omega) d_law_619 ?_
  refine e_aload_n C d_law_620 rfl ?_
  refine e_iload C d_law_621 rfl ?_
  refine e_iconst C d_law_623 (v := 2) (by decide) ?_
  refine e_iadd C d_law_624 ?_
  refine e_sld C P.1 P.2.1 P.2.2.1 (j := i + 2) (nI_add i 2) (by omega) (by omega) d_law_625 ?_
  refine e_aload_n C d_law_626 rfl ?_
  refine e_iload C d_law_627 rfl ?_
  refine e_iconst C d_law_629 (v := 3) (by decide) ?_
  refine e_iadd C d_law_630 ?_
  refine e_sld C P.1 P.2.1 P.2.2.1 (j := i + 3) (nI_add i 3) (by omega) (by omega) d_law_631 ?_
  refine e_aload_n C d_law_632 rfl ?_
  refine e_cZ C Z P.2.2.2.1 (hM) (gt_at 684 (by decide +kernel) (by decide +kernel)) g0 g682 g683 d_law_633 rfl ey_L_way hR rfl (by show _ ≤ 601024; omega) (by show _ ≤ 7293000; omega) (fun r u hB => ?_)
  obtain ⟨rfl, rfl⟩ := hB
  exact KK
set_option maxRecDepth 100000 in
theorem lh_caught (C : EC X G "CacheRulesLaw" code 7) (Z : EH X) (P : LPx X bs Ls xs i) {cells slots ce sl fr lo : Nat} (hf : cells + ce ≤ 601000 ∧ slots + sl ≤ 7290000) {k0 : Int32} (hM : ConZ X.l G y_L_caught c_L_caught 5 (some .int) [(0, 10, 13, 13)] (rc fr ce sl lo) [.ref (a 0), .int (xs (i + 1)), .int (xs (i + 2)), .ref o] ([(o, aJ G.2.2.2 1 f)] ++ wK G a c S wd V kd) (DI k0 ([(o, aJ G.2.2.2 1 f')] ++ wK G a c' S wd V kd))) (hR : eR (rc fr ce sl lo) room_1 5 = true) (KK : EW X G 7 (cells + ce) (slots + sl) 710 (LV bs o a a2 i) [.int k0] (LW G o a a2 f' c' m S wd V kd)) : EW X G 7 cells slots 693 (LV bs o a a2 i) [] (LW G o a a2 f c m S wd V kd) := by
  obtain ⟨hi, hL⟩ := P.2.2.2.2
  refine e_aload_n C d_law_693 rfl ?_
  refine e_aload_n C d_law_694 rfl ?_
  refine e_iload C d_law_695 rfl ?_
  refine e_iconst C d_law_697 (v := 1) (by decide) ?_
  refine e_iadd C d_law_698 ?_
  refine e_sld C P.1 P.2.1 P.2.2.1 (j := i + 1) (nI_add i 1) (by omega) (by omega) d_law_699 ?_
  refine e_aload_n C d_law_700 rfl ?_
  refine e_iload C d_law_701 rfl ?_
  refine e_iconst C d_law_703 (v := 2) (by decide) ?_
  refine e_iadd C d_law_704 ?_
  refine e_sld C P.1 P.2.1 P.2.2.1 (j := i + 2) (nI_add i 2) (by omega) (by omega) d_law_705 ?_
  refine e_aload_n C d_law_706 rfl ?_
  refine e_cZ C Z P.2.2.2.1 (hM) (gt_at 693 (by decide +kernel) (by decide +kernel)) g0 g691 g692 d_law_707 rfl ey_L_caught hR rfl (by show _ ≤ 601024; omega) (by show _ ≤ 7293000; omega) (fun r u hB => ?_)
  obtain ⟨rfl, rfl⟩ := hB
  exact KK
set_option maxRecDepth 100000 in
theorem lh_next (C : EC X G "CacheRulesLaw" code 7) (Z : EH X) (P : LPx X bs Ls xs i) {cells slots ce sl fr lo : Nat} (hf : cells + ce ≤ 601000 ∧ slots + sl ≤ 7290000) {k0 : Int32} (hM : ConZ X.l G y_L_next c_L_next 4 (some .int) [(0, 9, 12, 13)] (rc fr ce sl lo) [.ref (a 0), .int (xs (i + 1)), .ref o] ([(o, aJ G.2.2.2 1 f)] ++ wK G a c S wd V kd) (DI k0 ([(o, aJ G.2.2.2 1 f')] ++ wK G a c' S wd V kd))) (hR : eR (rc fr ce sl lo) room_1 4 = true) (KK : EW X G 7 (cells + ce) (slots + sl) 772 (LV bs o a a2 i) [.int k0] (LW G o a a2 f' c' m S wd V kd)) : EW X G 7 cells slots 761 (LV bs o a a2 i) [] (LW G o a a2 f c m S wd V kd) := by
  obtain ⟨hi, hL⟩ := P.2.2.2.2
  refine e_aload_n C d_law_761 rfl ?_
  refine e_aload_n C d_law_762 rfl ?_
  refine e_iload C d_law_763 rfl ?_
  refine e_iconst C d_law_765 (v := 1) (by decide) ?_
  refine e_iadd C d_law_766 ?_
  refine e_sld C P.1 P.2.1 P.2.2.1 (j := i + 1) (nI_add i 1) (by omega) (by omega) d_law_767 ?_
  refine e_aload_n C d_law_768 rfl ?_
  refine e_cZ C Z P.2.2.2.1 (hM) (gt_at 701 (by decide +kernel) (by decide +kernel)) g0 g699 g700 d_law_769 rfl ey_L_next hR rfl (by show _ ≤ 601024; omega) (by show _ ≤ 7293000; omega) (fun r u hB => ?_)
  obtain ⟨rfl, rfl⟩ := hB
  exact KK
set_option maxRecDepth 100000 in
theorem lh_misses (C : EC X G "CacheRulesLaw" code 7) (Z : EH X) (P : LPx X bs Ls xs i) {cells slots ce sl fr lo : Nat} (hf : cells + ce ≤ 601000 ∧ slots + sl ≤ 7290000) {k0 : Int32} (hM : ConZ X.l G y_L_misses c_L_misses 4 (some .int) [(0, 9, 12, 44)] (rc fr ce sl lo) [.ref (a 0), .int (xs (i + 1)), .ref o] ([(o, aJ G.2.2.2 1 f)] ++ wK G a c S wd V kd) (DI k0 ([(o, aJ G.2.2.2 1 f')] ++ wK G a c' S wd V kd))) (hR : eR (rc fr ce sl lo) room_1 4 = true) (KK : EW X G 7 (cells + ce) (slots + sl) 828 (LV bs o a a2 i) [.int k0] (LW G o a a2 f' c' m S wd V kd)) : EW X G 7 cells slots 817 (LV bs o a a2 i) [] (LW G o a a2 f c m S wd V kd) := by
  obtain ⟨hi, hL⟩ := P.2.2.2.2
  refine e_aload_n C d_law_817 rfl ?_
  refine e_aload_n C d_law_818 rfl ?_
  refine e_iload C d_law_819 rfl ?_
  refine e_iconst C d_law_821 (v := 1) (by decide) ?_
  refine e_iadd C d_law_822 ?_
  refine e_sld C P.1 P.2.1 P.2.2.1 (j := i + 1) (nI_add i 1) (by omega) (by omega) d_law_823 ?_
  refine e_aload_n C d_law_824 rfl ?_
  refine e_cZ C Z P.2.2.2.1 (hM) (gt_at 709 (by decide +kernel) (by decide +kernel)) g0 g707 g708 d_law_825 rfl ey_L_misses hR rfl (by show _ ≤ 601024; omega) (by show _ ≤ 7293000; omega) (fun r u hB => ?_)
  obtain ⟨rfl, rfl⟩ := hB
  exact KK
set_option maxRecDepth 100000 in
theorem ld_mode (C : EC X G "CacheRulesLaw" code 7) (P : LPx X bs Ls xs i) {cells slots : Nat} (hf : cells ≤ 601000 ∧ slots ≤ 7290000) {r0 : Int32} (hC : Con X.l G y_C_mode c_C_mode 4 (some .int) (rz 0 0) [.ref (a 0), .int (bI (!(xs (i + 1) == 0))), .int (bI (!(xs (i + 2) == 0)))] (wK G a c S wd V kd) (DI r0 (wK G a c' S wd V kd))) (hM : Con X.l G y_M_mode c_M_mode 4 (some .int) (rz 0 0) [.ref (a2 40), .int (bI (!(xs (i + 1) == 0))), .int (bI (!(xs (i + 2) == 0)))] (mF G a2 m.1 m.2) (DI r0 (mF G a2 m'.1 m'.2))) (KK : EW X G 7 cells slots 923 (LV bs o a a2 i) [] (LW G o a a2 f c' m' S wd V kd)) : EW X G 7 cells slots 152 (LV bs o a a2 i) [] (LW G o a a2 f c m S wd V kd) := by
  obtain ⟨hi, hL⟩ := P.2.2.2.2
  refine e_aload_n C d_law_152 rfl ?_
  refine e_aload_n C d_law_153 rfl ?_
  refine e_iload C d_law_154 rfl ?_
  refine e_iconst C d_law_156 (v := 1) (by decide) ?_
  refine e_iadd C d_law_157 ?_
  refine e_sld C P.1 P.2.1 P.2.2.1 (j := i + 1) (nI_add i 1) (by omega) (by omega) d_law_158 ?_
  refine e_bool C d_law_159 d_law_162 d_law_163 d_law_166 ?_
  refine e_aload_n C d_law_167 rfl ?_
  refine e_iload C d_law_168 rfl ?_
  refine e_iconst C d_law_170 (v := 2) (by decide) ?_
  refine e_iadd C d_law_171 ?_
  refine e_sld C P.1 P.2.1 P.2.2.1 (j := i + 2) (nI_add i 2) (by omega) (by omega) d_law_172 ?_
  refine e_bool C d_law_173 d_law_176 d_law_177 d_law_180 ?_
  refine e_cK C P.2.2.2.1 (hC) rfl g304 g1 g301 g302 g303 d_law_181 rfl ey_C_mode rfl rfl (cfit P hf) ?_
  refine e_aload_n C d_law_184 rfl ?_
  refine e_aload_n C d_law_185 rfl ?_
  refine e_iload C d_law_186 rfl ?_
  refine e_iconst C d_law_188 (v := 1) (by decide) ?_
  refine e_iadd C d_law_189 ?_
  refine e_sld C P.1 P.2.1 P.2.2.1 (j := i + 1) (nI_add i 1) (by omega) (by omega) d_law_190 ?_
  refine e_bool C d_law_191 d_law_194 d_law_195 d_law_198 ?_
  refine e_aload_n C d_law_199 rfl ?_
  refine e_iload C d_law_200 rfl ?_
  refine e_iconst C d_law_202 (v := 2) (by decide) ?_
  refine e_iadd C d_law_203 ?_
  refine e_sld C P.1 P.2.1 P.2.2.1 (j := i + 2) (nI_add i 2) (by omega) (by omega) d_law_204 ?_
  refine e_bool C d_law_205 d_law_208 d_law_209 d_law_212 ?_
  refine e_cM C P.2.2.2.1 (hM) rfl g860 g14 g857 g858 g859 d_law_213 rfl ey_M_mode rfl rfl (cfit P hf) ?_
  refine e_icmp_eq C d_law_216 (tgt := 923) (by decide) (fun _ => ?_) (fun h => absurd rfl h)
  exact e_lv2 KK rfl
set_option maxRecDepth 100000 in
theorem ld_lock (C : EC X G "CacheRulesLaw" code 7) (P : LPx X bs Ls xs i) {cells slots : Nat} (hf : cells ≤ 601000 ∧ slots ≤ 7290000) {r0 : Int32} (hC : Con X.l G y_C_lock c_C_lock 4 (some .boolean) (rz 2 44) [.ref (a 0), .int (xs (i + 1)), .int (bI (!(xs (i + 2) == 0)))] (wK G a c S wd V kd) (DI r0 (wK G a c' S wd V kd))) (hM : Con X.l G y_M_lock c_M_lock 5 (some .boolean) (rz 2 45) [.ref (a2 40), .int (xs (i + 1)), .int (bI (!(xs (i + 2) == 0)))] (mF G a2 m.1 m.2) (DI r0 (mF G a2 m'.1 m'.2))) (KK : EW X G 7 cells slots 923 (LV bs o a a2 i) [] (LW G o a a2 f c' m' S wd V kd)) : EW X G 7 cells slots 497 (LV bs o a a2 i) [] (LW G o a a2 f c m S wd V kd) := by
  obtain ⟨hi, hL⟩ := P.2.2.2.2
  refine e_aload_n C d_law_497 rfl ?_
  refine e_aload_n C d_law_498 rfl ?_
  refine e_iload C d_law_499 rfl ?_
  refine e_iconst C d_law_501 (v := 1) (by decide) ?_
  refine e_iadd C d_law_502 ?_
  refine e_sld C P.1 P.2.1 P.2.2.1 (j := i + 1) (nI_add i 1) (by omega) (by omega) d_law_503 ?_
  refine e_aload_n C d_law_504 rfl ?_
  refine e_iload C d_law_505 rfl ?_
  refine e_iconst C d_law_507 (v := 2) (by decide) ?_
  refine e_iadd C d_law_508 ?_
  refine e_sld C P.1 P.2.1 P.2.2.1 (j := i + 2) (nI_add i 2) (by omega) (by omega) d_law_509 ?_
  refine e_bool C d_law_510 d_law_513 d_law_514 d_law_517 ?_
  refine e_cK C P.2.2.2.1 (hC) rfl g308 g1 g305 g306 g307 d_law_518 rfl ey_C_lock rfl rfl (cfit P hf) ?_
  refine e_aload_n C d_law_521 rfl ?_
  refine e_aload_n C d_law_522 rfl ?_
  refine e_iload C d_law_523 rfl ?_
  refine e_iconst C d_law_525 (v := 1) (by decide) ?_
  refine e_iadd C d_law_526 ?_
  refine e_sld C P.1 P.2.1 P.2.2.1 (j := i + 1) (nI_add i 1) (by omega) (by omega) d_law_527 ?_
  refine e_aload_n C d_law_528 rfl ?_
  refine e_iload C d_law_529 rfl ?_
  refine e_iconst C d_law_531 (v := 2) (by decide) ?_
  refine e_iadd C d_law_532 ?_
  refine e_sld C P.1 P.2.1 P.2.2.1 (j := i + 2) (nI_add i 2) (by omega) (by omega) d_law_533 ?_
  refine e_bool C d_law_534 d_law_537 d_law_538 d_law_541 ?_
  refine e_cM C P.2.2.2.1 (hM) rfl g1005 g14 g1002 g1003 g1004 d_law_542 rfl ey_M_lock rfl rfl (cfit P hf) ?_
  refine e_icmp_eq C d_law_545 (tgt := 923) (by decide) (fun _ => ?_) (fun h => absurd rfl h)
  exact e_lv2 KK rfl
set_option maxRecDepth 100000 in
theorem ld_clean (C : EC X G "CacheRulesLaw" code 7) (P : LPx X bs Ls xs i) {cells slots : Nat} (hf : cells ≤ 601000 ∧ slots ≤ 7290000) {r0 : Int32} (hC : Con X.l G y_C_clean c_C_clean 5 (some .int) (rz 2 44) [.ref (a 0), .int (xs (i + 1))] (wK G a c S wd V kd) (DI r0 (wK G a c' S wd V kd))) (hM : Con X.l G y_M_clean c_M_clean 4 (some .int) (rz 2 45) [.ref (a2 40), .int (xs (i + 1))] (mF G a2 m.1 m.2) (DI r0 (mF G a2 m'.1 m'.2))) (KK : EW X G 7 cells slots 923 (LV bs o a a2 i) [] (LW G o a a2 f c' m' S wd V kd)) : EW X G 7 cells slots 550 (LV bs o a a2 i) [] (LW G o a a2 f c m S wd V kd) := by
  obtain ⟨hi, hL⟩ := P.2.2.2.2
  refine e_aload_n C d_law_550 rfl ?_
  refine e_aload_n C d_law_551 rfl ?_
  refine e_iload C d_law_552 rfl ?_
  refine e_iconst C d_law_554 (v := 1) (by decide) ?_
  refine e_iadd C d_law_555 ?_
  refine e_sld C P.1 P.2.1 P.2.2.1 (j := i + 1) (nI_add i 1) (by omega) (by omega) d_law_556 ?_
  refine e_cK C P.2.2.2.1 (hC) rfl g320 g1 g317 g318 g319 d_law_557 rfl ey_C_clean rfl rfl (cfit P hf) ?_
  refine e_aload_n C d_law_560 rfl ?_
  refine e_aload_n C d_law_561 rfl ?_
  refine e_iload C d_law_562 rfl ?_
  refine e_iconst C d_law_564 (v := 1) (by decide) ?_
  refine e_iadd C d_law_565 ?_
  refine e_sld C P.1 P.2.1 P.2.2.1 (j := i + 1) (nI_add i 1) (by omega) (by omega) d_law_566 ?_
  refine e_cM C P.2.2.2.1 (hM) rfl g1009 g14 g1006 g1007 g1008 d_law_567 rfl ey_M_clean rfl rfl (cfit P hf) ?_
  refine e_icmp_eq C d_law_570 (tgt := 923) (by decide) (fun _ => ?_) (fun h => absurd rfl h)
  exact e_lv2 KK rfl
set_option maxRecDepth 100000 in
theorem ld_cleanAll (C : EC X G "CacheRulesLaw" code 7) (P : LPx X bs Ls xs i) {cells slots : Nat} (hf : cells ≤ 601000 ∧ slots ≤ 7290000) {r0 : Int32} (hC : Con X.l G y_C_cleanAll c_C_cleanAll 3 (some .int) (rz 2 42) [.ref (a 0)] (wK G a c S wd V kd) (DI r0 (wK G a c' S wd V kd))) (hM : Con X.l G y_M_cleanAll c_M_cleanAll 3 (some .int) (rz 2 42) [.ref (a2 40)] (mF G a2 m.1 m.2) (DI r0 (mF G a2 m'.1 m'.2))) (KK : EW X G 7 cells slots 923 (LV bs o a a2 i) [] (LW G o a a2 f c' m' S wd V kd)) : EW X G 7 cells slots 575 (LV bs o a a2 i) [] (LW G o a a2 f c m S wd V kd) := by
  obtain ⟨hi, hL⟩ := P.2.2.2.2
  refine e_aload_n C d_law_575 rfl ?_
  refine e_cK C P.2.2.2.1 (hC) rfl g343 g1 g340 g341 g342 d_law_576 rfl ey_C_cleanAll rfl rfl (cfit P hf) ?_
  refine e_aload_n C d_law_579 rfl ?_
  refine e_cM C P.2.2.2.1 (hM) rfl g1021 g14 g1018 g1019 g1020 d_law_580 rfl ey_M_cleanAll rfl rfl (cfit P hf) ?_
  refine e_icmp_eq C d_law_583 (tgt := 923) (by decide) (fun _ => ?_) (fun h => absurd rfl h)
  exact e_lv2 KK rfl
set_option maxRecDepth 100000 in
theorem ld_drop (C : EC X G "CacheRulesLaw" code 7) (P : LPx X bs Ls xs i) {cells slots : Nat} (hf : cells ≤ 601000 ∧ slots ≤ 7290000) {r0 : Int32} (hC : Con X.l G y_C_drop c_C_drop 5 (some .int) (rz 2 44) [.ref (a 0), .int (xs (i + 1))] (wK G a c S wd V kd) (DI r0 (wK G a c' S wd V kd))) (hM : Con X.l G y_M_drop c_M_drop 5 (some .int) (rz 2 45) [.ref (a2 40), .int (xs (i + 1))] (mF G a2 m.1 m.2) (DI r0 (mF G a2 m'.1 m'.2))) (KK : EW X G 7 cells slots 923 (LV bs o a a2 i) [] (LW G o a a2 f c' m' S wd V kd)) : EW X G 7 cells slots 588 (LV bs o a a2 i) [] (LW G o a a2 f c m S wd V kd) := by
  obtain ⟨hi, hL⟩ := P.2.2.2.2
  refine e_aload_n C d_law_588 rfl ?_
  refine e_aload_n C d_law_589 rfl ?_
  refine e_iload C d_law_590 rfl ?_
  refine e_iconst C d_law_592 (v := 1) (by decide) ?_
  refine e_iadd C d_law_593 ?_
  refine e_sld C P.1 P.2.1 P.2.2.1 (j := i + 1) (nI_add i 1) (by omega) (by omega) d_law_594 ?_
  refine e_cK C P.2.2.2.1 (hC) rfl g347 g1 g344 g345 g346 d_law_595 rfl ey_C_drop rfl rfl (cfit P hf) ?_
  refine e_aload_n C d_law_598 rfl ?_
  refine e_aload_n C d_law_599 rfl ?_
  refine e_iload C d_law_600 rfl ?_
  refine e_iconst C d_law_602 (v := 1) (by decide) ?_
  refine e_iadd C d_law_603 ?_
  refine e_sld C P.1 P.2.1 P.2.2.1 (j := i + 1) (nI_add i 1) (by omega) (by omega) d_law_604 ?_
  refine e_cM C P.2.2.2.1 (hM) rfl g1025 g14 g1022 g1023 g1024 d_law_605 rfl ey_M_drop rfl rfl (cfit P hf) ?_
  refine e_icmp_eq C d_law_608 (tgt := 923) (by decide) (fun _ => ?_) (fun h => absurd rfl h)
  exact e_lv2 KK rfl
set_option maxRecDepth 100000 in
theorem ld_distance (C : EC X G "CacheRulesLaw" code 7) (P : LPx X bs Ls xs i) {cells slots : Nat} (hf : cells ≤ 601000 ∧ slots ≤ 7290000) {r0 : Int32} (hC : Con X.l G y_C_distance c_C_distance 2 (some .int) (rz 1 22) [.ref (a 0), .int (xs (i + 1))] (wK G a c S wd V kd) (DI r0 (wK G a c' S wd V kd))) (hM : Con X.l G y_M_distance c_M_distance 2 (some .int) (rz 1 23) [.ref (a2 40), .int (xs (i + 1))] (mF G a2 m.1 m.2) (DI r0 (mF G a2 m'.1 m'.2))) (KK : EW X G 7 cells slots 923 (LV bs o a a2 i) [] (LW G o a a2 f c' m' S wd V kd)) : EW X G 7 cells slots 873 (LV bs o a a2 i) [] (LW G o a a2 f c m S wd V kd) := by
  obtain ⟨hi, hL⟩ := P.2.2.2.2
  refine e_aload_n C d_law_873 rfl ?_
  refine e_aload_n C d_law_874 rfl ?_
  refine e_iload C d_law_875 rfl ?_
  refine e_iconst C d_law_877 (v := 1) (by decide) ?_
  refine e_iadd C d_law_878 ?_
  refine e_sld C P.1 P.2.1 P.2.2.1 (j := i + 1) (nI_add i 1) (by omega) (by omega) d_law_879 ?_
  refine e_cK C P.2.2.2.1 (hC) rfl g360 g1 g357 g358 g359 d_law_880 rfl ey_C_distance rfl rfl (cfit P hf) ?_
  refine e_aload_n C d_law_883 rfl ?_
  refine e_aload_n C d_law_884 rfl ?_
  refine e_iload C d_law_885 rfl ?_
  refine e_iconst C d_law_887 (v := 1) (by decide) ?_
  refine e_iadd C d_law_888 ?_
  refine e_sld C P.1 P.2.1 P.2.2.1 (j := i + 1) (nI_add i 1) (by omega) (by omega) d_law_889 ?_
  refine e_cM C P.2.2.2.1 (hM) rfl g1045 g14 g1042 g1043 g1044 d_law_890 rfl ey_M_distance rfl rfl (cfit P hf) ?_
  refine e_icmp_eq C d_law_893 (tgt := 923) (by decide) (fun _ => ?_) (fun h => absurd rfl h)
  exact e_lv2 KK rfl
set_option maxRecDepth 100000 in
theorem ld_count (C : EC X G "CacheRulesLaw" code 7) (P : LPx X bs Ls xs i) {cells slots : Nat} (hf : cells ≤ 601000 ∧ slots ≤ 7290000) {r0 : Int32} (hC : Con X.l G y_C_count c_C_count 2 (some .int) (rz 0 0) [.ref (a 0), .int (xs (i + 1))] (wK G a c S wd V kd) (DI r0 (wK G a c' S wd V kd))) (hM : Con X.l G y_M_count c_M_count 2 (some .int) (rz 1 24) [.ref (a2 40), .int (xs (i + 1))] (mF G a2 m.1 m.2) (DI r0 (mF G a2 m'.1 m'.2))) (KK : EW X G 7 cells slots 923 (LV bs o a a2 i) [] (LW G o a a2 f c' m' S wd V kd)) : EW X G 7 cells slots 898 (LV bs o a a2 i) [] (LW G o a a2 f c m S wd V kd) := by
  obtain ⟨hi, hL⟩ := P.2.2.2.2
  refine e_aload_n C d_law_898 rfl ?_
  refine e_aload_n C d_law_899 rfl ?_
  refine e_iload C d_law_900 rfl ?_
  refine e_iconst C d_law_902 (v := 1) (by decide) ?_
  refine e_iadd C d_law_903 ?_
  refine e_sld C P.1 P.2.1 P.2.2.1 (j := i + 1) (nI_add i 1) (by omega) (by omega) d_law_904 ?_
  refine e_cK C P.2.2.2.1 (hC) rfl g368 g1 g365 g366 g367 d_law_905 rfl ey_C_count rfl rfl (cfit P hf) ?_
  refine e_aload_n C d_law_908 rfl ?_
  refine e_aload_n C d_law_909 rfl ?_
  refine e_iload C d_law_910 rfl ?_
  refine e_iconst C d_law_912 (v := 1) (by decide) ?_
  refine e_iadd C d_law_913 ?_
  refine e_sld C P.1 P.2.1 P.2.2.1 (j := i + 1) (nI_add i 1) (by omega) (by omega) d_law_914 ?_
  refine e_cM C P.2.2.2.1 (hM) rfl g1049 g14 g1046 g1047 g1048 d_law_915 rfl ey_M_count rfl rfl (cfit P hf) ?_
  refine e_icmp_eq C d_law_918 (tgt := 923) (by decide) (fun _ => ?_) (fun h => absurd rfl h)
  exact e_lv2 KK rfl
end LawT
