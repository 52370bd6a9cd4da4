/-! THE LAW'S WRAPPERS, by program: what the class's method answers goes into the array, 0 comes back; what it throws is caught, the handler's number comes back -/
theorem ey_L_access : eY y_L_access 5 = true := by decide +kernel
theorem d_L_access_0 : decode c_L_access 0 = .ok (.aload 4, 2) := by decide +kernel
theorem d_L_access_2 : decode c_L_access 2 = .ok (.iconst 0, 1) := by decide +kernel
theorem d_L_access_3 : decode c_L_access 3 = .ok (.aload_n 0, 1) := by decide +kernel
theorem d_L_access_4 : decode c_L_access 4 = .ok (.iload_n 1, 1) := by decide +kernel
theorem d_L_access_5 : decode c_L_access 5 = .ok (.iload_n 2, 1) := by decide +kernel
theorem d_L_access_6 : decode c_L_access 6 = .ok (.iload_n 3, 1) := by decide +kernel
theorem d_L_access_7 : decode c_L_access 7 = .ok (.invokevirtual 7, 3) := by decide +kernel
theorem d_L_access_10 : decode c_L_access 10 = .ok (.i2l, 1) := by decide +kernel
theorem d_L_access_11 : decode c_L_access 11 = .ok (.lastore, 1) := by decide +kernel
theorem d_L_access_12 : decode c_L_access 12 = .ok (.goto 7, 3) := by decide +kernel
theorem d_L_access_15 : decode c_L_access 15 = .ok (.astore 5, 2) := by decide +kernel
theorem d_L_access_17 : decode c_L_access 17 = .ok (.iconst 1, 1) := by decide +kernel
theorem d_L_access_18 : decode c_L_access 18 = .ok (.ireturn, 1) := by decide +kernel
theorem d_L_access_19 : decode c_L_access 19 = .ok (.iconst 0, 1) := by decide +kernel
theorem d_L_access_20 : decode c_L_access 20 = .ok (.ireturn, 1) := by decide +kernel
theorem ey_L_ask : eY y_L_ask 4 = true := by decide +kernel
theorem d_L_ask_0 : decode c_L_ask 0 = .ok (.aload_n 3, 1) := by decide +kernel
theorem d_L_ask_1 : decode c_L_ask 1 = .ok (.iconst 0, 1) := by decide +kernel
theorem d_L_ask_2 : decode c_L_ask 2 = .ok (.aload_n 0, 1) := by decide +kernel
theorem d_L_ask_3 : decode c_L_ask 3 = .ok (.iload_n 1, 1) := by decide +kernel
theorem d_L_ask_4 : decode c_L_ask 4 = .ok (.iload_n 2, 1) := by decide +kernel
theorem d_L_ask_5 : decode c_L_ask 5 = .ok (.invokevirtual 15, 3) := by decide +kernel
theorem d_L_ask_8 : decode c_L_ask 8 = .ok (.i2l, 1) := by decide +kernel
theorem d_L_ask_9 : decode c_L_ask 9 = .ok (.lastore, 1) := by decide +kernel
theorem d_L_ask_10 : decode c_L_ask 10 = .ok (.goto 11, 3) := by decide +kernel
theorem d_L_ask_13 : decode c_L_ask 13 = .ok (.astore 4, 2) := by decide +kernel
theorem d_L_ask_15 : decode c_L_ask 15 = .ok (.iconst 1, 1) := by decide +kernel
theorem d_L_ask_16 : decode c_L_ask 16 = .ok (.ireturn, 1) := by decide +kernel
theorem d_L_ask_17 : decode c_L_ask 17 = .ok (.astore 4, 2) := by decide +kernel
theorem d_L_ask_19 : decode c_L_ask 19 = .ok (.iconst 2, 1) := by decide +kernel
theorem d_L_ask_20 : decode c_L_ask 20 = .ok (.ireturn, 1) := by decide +kernel
theorem d_L_ask_21 : decode c_L_ask 21 = .ok (.iconst 0, 1) := by decide +kernel
theorem d_L_ask_22 : decode c_L_ask 22 = .ok (.ireturn, 1) := by decide +kernel
theorem ey_L_answer : eY y_L_answer 2 = true := by decide +kernel
theorem d_L_answer_0 : decode c_L_answer 0 = .ok (.aload_n 1, 1) := by decide +kernel
theorem d_L_answer_1 : decode c_L_answer 1 = .ok (.iconst 0, 1) := by decide +kernel
theorem d_L_answer_2 : decode c_L_answer 2 = .ok (.aload_n 0, 1) := by decide +kernel
theorem d_L_answer_3 : decode c_L_answer 3 = .ok (.invokevirtual 21, 3) := by decide +kernel
theorem d_L_answer_6 : decode c_L_answer 6 = .ok (.i2l, 1) := by decide +kernel
theorem d_L_answer_7 : decode c_L_answer 7 = .ok (.lastore, 1) := by decide +kernel
theorem d_L_answer_8 : decode c_L_answer 8 = .ok (.goto 6, 3) := by decide +kernel
theorem d_L_answer_11 : decode c_L_answer 11 = .ok (.astore_n 2, 1) := by decide +kernel
theorem d_L_answer_12 : decode c_L_answer 12 = .ok (.iconst 1, 1) := by decide +kernel
theorem d_L_answer_13 : decode c_L_answer 13 = .ok (.ireturn, 1) := by decide +kernel
theorem d_L_answer_14 : decode c_L_answer 14 = .ok (.iconst 0, 1) := by decide +kernel
theorem d_L_answer_15 : decode c_L_answer 15 = .ok (.ireturn, 1) := by decide +kernel
theorem ey_L_answered : eY y_L_answered 4 = true := by decide +kernel
theorem d_L_answered_0 : decode c_L_answered 0 = .ok (.aload_n 3, 1) := by decide +kernel
theorem d_L_answered_1 : decode c_L_answered 1 = .ok (.iconst 0, 1) := by decide +kernel
theorem d_L_answered_2 : decode c_L_answered 2 = .ok (.aload_n 0, 1) := by decide +kernel
theorem d_L_answered_3 : decode c_L_answered 3 = .ok (.iload_n 1, 1) := by decide +kernel
theorem d_L_answered_4 : decode c_L_answered 4 = .ok (.iload_n 2, 1) := by decide +kernel
theorem d_L_answered_5 : decode c_L_answered 5 = .ok (.invokevirtual 27, 3) := by decide +kernel
theorem d_L_answered_8 : decode c_L_answered 8 = .ok (.i2l, 1) := by decide +kernel
theorem d_L_answered_9 : decode c_L_answered 9 = .ok (.lastore, 1) := by decide +kernel
theorem d_L_answered_10 : decode c_L_answered 10 = .ok (.goto 7, 3) := by decide +kernel
theorem d_L_answered_13 : decode c_L_answered 13 = .ok (.astore 4, 2) := by decide +kernel
theorem d_L_answered_15 : decode c_L_answered 15 = .ok (.iconst 1, 1) := by decide +kernel
theorem d_L_answered_16 : decode c_L_answered 16 = .ok (.ireturn, 1) := by decide +kernel
theorem d_L_answered_17 : decode c_L_answered 17 = .ok (.iconst 0, 1) := by decide +kernel
theorem d_L_answered_18 : decode c_L_answered 18 = .ok (.ireturn, 1) := by decide +kernel
theorem ey_L_way : eY y_L_way 5 = true := by decide +kernel
theorem d_L_way_0 : decode c_L_way 0 = .ok (.aload 4, 2) := by decide +kernel
theorem d_L_way_2 : decode c_L_way 2 = .ok (.iconst 0, 1) := by decide +kernel
theorem d_L_way_3 : decode c_L_way 3 = .ok (.aload_n 0, 1) := by decide +kernel
theorem d_L_way_4 : decode c_L_way 4 = .ok (.iload_n 1, 1) := by decide +kernel
theorem d_L_way_5 : decode c_L_way 5 = .ok (.iload_n 2, 1) := by decide +kernel
theorem d_L_way_6 : decode c_L_way 6 = .ok (.iload_n 3, 1) := by decide +kernel
theorem d_L_way_7 : decode c_L_way 7 = .ok (.invokevirtual 30, 3) := by decide +kernel
theorem d_L_way_10 : decode c_L_way 10 = .ok (.i2l, 1) := by decide +kernel
theorem d_L_way_11 : decode c_L_way 11 = .ok (.lastore, 1) := by decide +kernel
theorem d_L_way_12 : decode c_L_way 12 = .ok (.goto 7, 3) := by decide +kernel
theorem d_L_way_15 : decode c_L_way 15 = .ok (.astore 5, 2) := by decide +kernel
theorem d_L_way_17 : decode c_L_way 17 = .ok (.iconst 1, 1) := by decide +kernel
theorem d_L_way_18 : decode c_L_way 18 = .ok (.ireturn, 1) := by decide +kernel
theorem d_L_way_19 : decode c_L_way 19 = .ok (.iconst 0, 1) := by decide +kernel
theorem d_L_way_20 : decode c_L_way 20 = .ok (.ireturn, 1) := by decide +kernel
theorem ey_L_caught : eY y_L_caught 4 = true := by decide +kernel
theorem d_L_caught_0 : decode c_L_caught 0 = .ok (.aload_n 3, 1) := by decide +kernel
theorem d_L_caught_1 : decode c_L_caught 1 = .ok (.iconst 0, 1) := by decide +kernel
theorem d_L_caught_2 : decode c_L_caught 2 = .ok (.aload_n 0, 1) := by decide +kernel
theorem d_L_caught_3 : decode c_L_caught 3 = .ok (.iload_n 1, 1) := by decide +kernel
theorem d_L_caught_4 : decode c_L_caught 4 = .ok (.iload_n 2, 1) := by decide +kernel
theorem d_L_caught_5 : decode c_L_caught 5 = .ok (.invokevirtual 34, 3) := by decide +kernel
theorem d_L_caught_8 : decode c_L_caught 8 = .ok (.i2l, 1) := by decide +kernel
theorem d_L_caught_9 : decode c_L_caught 9 = .ok (.lastore, 1) := by decide +kernel
theorem d_L_caught_10 : decode c_L_caught 10 = .ok (.goto 7, 3) := by decide +kernel
theorem d_L_caught_13 : decode c_L_caught 13 = .ok (.astore 4, 2) := by decide +kernel
theorem d_L_caught_15 : decode c_L_caught 15 = .ok (.iconst 1, 1) := by decide +kernel
theorem d_L_caught_16 : decode c_L_caught 16 = .ok (.ireturn, 1) := by decide +kernel
theorem d_L_caught_17 : decode c_L_caught 17 = .ok (.iconst 0, 1) := by decide +kernel
theorem d_L_caught_18 : decode c_L_caught 18 = .ok (.ireturn, 1) := by decide +kernel
theorem ey_L_next : eY y_L_next 3 = true := by decide +kernel
theorem d_L_next_0 : decode c_L_next 0 = .ok (.aload_n 2, 1) := by decide +kernel
theorem d_L_next_1 : decode c_L_next 1 = .ok (.iconst 0, 1) := by decide +kernel
theorem d_L_next_2 : decode c_L_next 2 = .ok (.aload_n 0, 1) := by decide +kernel
theorem d_L_next_3 : decode c_L_next 3 = .ok (.iload_n 1, 1) := by decide +kernel
theorem d_L_next_4 : decode c_L_next 4 = .ok (.invokevirtual 37, 3) := by decide +kernel
theorem d_L_next_7 : decode c_L_next 7 = .ok (.i2l, 1) := by decide +kernel
theorem d_L_next_8 : decode c_L_next 8 = .ok (.lastore, 1) := by decide +kernel
theorem d_L_next_9 : decode c_L_next 9 = .ok (.goto 6, 3) := by decide +kernel
theorem d_L_next_12 : decode c_L_next 12 = .ok (.astore_n 3, 1) := by decide +kernel
theorem d_L_next_13 : decode c_L_next 13 = .ok (.iconst 1, 1) := by decide +kernel
theorem d_L_next_14 : decode c_L_next 14 = .ok (.ireturn, 1) := by decide +kernel
theorem d_L_next_15 : decode c_L_next 15 = .ok (.iconst 0, 1) := by decide +kernel
theorem d_L_next_16 : decode c_L_next 16 = .ok (.ireturn, 1) := by decide +kernel
theorem ey_L_misses : eY y_L_misses 3 = true := by decide +kernel
theorem d_L_misses_0 : decode c_L_misses 0 = .ok (.aload_n 2, 1) := by decide +kernel
theorem d_L_misses_1 : decode c_L_misses 1 = .ok (.iconst 0, 1) := by decide +kernel
theorem d_L_misses_2 : decode c_L_misses 2 = .ok (.aload_n 0, 1) := by decide +kernel
theorem d_L_misses_3 : decode c_L_misses 3 = .ok (.iload_n 1, 1) := by decide +kernel
theorem d_L_misses_4 : decode c_L_misses 4 = .ok (.invokevirtual 41, 3) := by decide +kernel
theorem d_L_misses_7 : decode c_L_misses 7 = .ok (.i2l, 1) := by decide +kernel
theorem d_L_misses_8 : decode c_L_misses 8 = .ok (.lastore, 1) := by decide +kernel
theorem d_L_misses_9 : decode c_L_misses 9 = .ok (.goto 6, 3) := by decide +kernel
theorem d_L_misses_12 : decode c_L_misses 12 = .ok (.astore_n 3, 1) := by decide +kernel
theorem d_L_misses_13 : decode c_L_misses 13 = .ok (.iconst 1, 1) := by decide +kernel
theorem d_L_misses_14 : decode c_L_misses 14 = .ok (.ireturn, 1) := by decide +kernel
theorem d_L_misses_15 : decode c_L_misses 15 = .ok (.iconst 0, 1) := by decide +kernel
theorem d_L_misses_16 : decode c_L_misses 16 = .ok (.ireturn, 1) := by decide +kernel
section WR1
variable {l : Launch} {G : EG} {o b : Nat} {f : Nat → Int64} {wc W' : va_W} {fs : List Value} {r0 : Int32}
set_option maxRecDepth 100000 in
theorem kz_L_access {x1 x2 x3 : Int32} (he : wc[0]? = some (b, ob 0 fs)) (hM : Con l G y_C_access c_C_access 4 (some .int) (rz 6 149) [.ref b, .int x1, .int x2, .int x3] wc (DI r0 W')) : ConZ l G y_L_access c_L_access 6 (some .int) [(0, 12, 15, 13)] (rz 9 300) [.ref b, .int x1, .int x2, .int x3, .ref o] ([(o, aJ G.2.2.2 1 f)] ++ wc) (DI 0 ([(o, aJ G.2.2.2 1 (vp_updL f 0 r0.toInt64))] ++ W')) := by
  refine ConZ.of rfl rfl (fun X C E Z hT hR hl => ?_)
  subst hl
  refine e_aload C d_L_access_0 rfl ?_
  refine e_iconst C d_L_access_2 (v := nI 0) (by decide) ?_
  refine e_aload_n C d_L_access_3 rfl ?_
  refine e_iload_n C d_L_access_4 rfl ?_
  refine e_iload_n C d_L_access_5 rfl ?_
  refine e_iload_n C d_L_access_6 rfl ?_
  refine e_comm ?_
  refine e_cW C hR 0 hM g379 g1 g376 g377 g378 d_L_access_7 rfl ey_C_access rfl he rfl rfl ⟨Nat.zero_le _, Nat.zero_le _⟩ ?_
  refine e_comm ?_
  refine e_i2l C d_L_access_10 rfl ?_
  refine e_last C 0 2 d_L_access_11 rfl rfl 0 rfl (by decide) (by decide) ?_
  refine e_goto C d_L_access_12 (tgt := 19) (by decide) ?_
  refine e_iconst C d_L_access_19 (v := 0) (by decide) ?_
  exact e_iret C E d_L_access_20 (Nat.le_refl _) (Nat.le_refl _) rfl ⟨rfl, rfl⟩
set_option maxRecDepth 100000 in
theorem tz_L_access {x1 x2 x3 : Int32} (he : wc[0]? = some (b, ob 0 fs)) (hM : Cth l G y_C_access c_C_access 4 (some .int) (rc 6 1 6 90) [.ref b, .int x1, .int x2, .int x3] wc "java/lang/IndexOutOfBoundsException") : ConZ l G y_L_access c_L_access 6 (some .int) [(0, 12, 15, 13)] (rc 7 1 6 120) [.ref b, .int x1, .int x2, .int x3, .ref o] ([(o, aJ G.2.2.2 1 f)] ++ wc) (DI 1 ([(o, aJ G.2.2.2 1 f)] ++ wc)) := by
  refine ConZ.of rfl rfl (fun X C E Z hT hR hl => ?_)
  subst hl
  refine e_aload C d_L_access_0 rfl ?_
  refine e_iconst C d_L_access_2 (v := nI 0) (by decide) ?_
  refine e_aload_n C d_L_access_3 rfl ?_
  refine e_iload_n C d_L_access_4 rfl ?_
  refine e_iload_n C d_L_access_5 rfl ?_
  refine e_iload_n C d_L_access_6 rfl ?_
  refine e_comm ?_
  refine e_cT (cls := "java/lang/IndexOutOfBoundsException") C Z hR 0 hM g379 g1 g376 g377 g378 d_L_access_7 rfl ey_C_access rfl he rfl rfl (Nat.le_refl _) (Nat.le_refl _) (pr := []) hT rfl (by decide) g375 (by decide) (fun _ h => by cases h) (fun q => ?_)
  refine e_comm ?_
  refine e_astore C d_L_access_15 rfl ?_
  refine e_iconst C d_L_access_17 (v := 1) (by decide) ?_
  exact e_iret C E d_L_access_18 (Nat.le_refl _) (Nat.le_refl _) rfl ⟨rfl, rfl⟩
set_option maxRecDepth 100000 in
theorem kz_L_ask {x1 x2 : Int32} (he : wc[0]? = some (b, ob 0 fs)) (hM : Con l G y_C_ask c_C_ask 4 (some .int) (rz 6 149) [.ref b, .int x1, .int x2] wc (DI r0 W')) : ConZ l G y_L_ask c_L_ask 5 (some .int) [(0, 10, 13, 13), (0, 10, 17, 19)] (rz 9 300) [.ref b, .int x1, .int x2, .ref o] ([(o, aJ G.2.2.2 1 f)] ++ wc) (DI 0 ([(o, aJ G.2.2.2 1 (vp_updL f 0 r0.toInt64))] ++ W')) := by
  refine ConZ.of rfl rfl (fun X C E Z hT hR hl => ?_)
  subst hl
  refine e_aload_n C d_L_ask_0 rfl ?_
  refine e_iconst C d_L_ask_1 (v := nI 0) (by decide) ?_
  refine e_aload_n C d_L_ask_2 rfl ?_
  refine e_iload_n C d_L_ask_3 rfl ?_
  refine e_iload_n C d_L_ask_4 rfl ?_
  refine e_comm ?_
  refine e_cW C hR 0 hM g617 g1 g614 g615 g616 d_L_ask_5 rfl ey_C_ask rfl he rfl rfl ⟨Nat.zero_le _, Nat.zero_le _⟩ ?_
  refine e_comm ?_
  refine e_i2l C d_L_ask_8 rfl ?_
  refine e_last C 0 2 d_L_ask_9 rfl rfl 0 rfl (by decide) (by decide) ?_
  refine e_goto C d_L_ask_10 (tgt := 21) (by decide) ?_
  refine e_iconst C d_L_ask_21 (v := 0) (by decide) ?_
  exact e_iret C E d_L_ask_22 (Nat.le_refl _) (Nat.le_refl _) rfl ⟨rfl, rfl⟩
set_option maxRecDepth 100000 in
theorem tz_L_ask {x1 x2 : Int32} (he : wc[0]? = some (b, ob 0 fs)) (hM : Cth l G y_C_ask c_C_ask 4 (some .int) (rc 6 1 6 90) [.ref b, .int x1, .int x2] wc "java/lang/IndexOutOfBoundsException") : ConZ l G y_L_ask c_L_ask 5 (some .int) [(0, 10, 13, 13), (0, 10, 17, 19)] (rc 7 1 6 120) [.ref b, .int x1, .int x2, .ref o] ([(o, aJ G.2.2.2 1 f)] ++ wc) (DI 1 ([(o, aJ G.2.2.2 1 f)] ++ wc)) := by
  refine ConZ.of rfl rfl (fun X C E Z hT hR hl => ?_)
  subst hl
  refine e_aload_n C d_L_ask_0 rfl ?_
  refine e_iconst C d_L_ask_1 (v := nI 0) (by decide) ?_
  refine e_aload_n C d_L_ask_2 rfl ?_
  refine e_iload_n C d_L_ask_3 rfl ?_
  refine e_iload_n C d_L_ask_4 rfl ?_
  refine e_comm ?_
  refine e_cT (cls := "java/lang/IndexOutOfBoundsException") C Z hR 0 hM g617 g1 g614 g615 g616 d_L_ask_5 rfl ey_C_ask rfl he rfl rfl (Nat.le_refl _) (Nat.le_refl _) (pr := []) hT rfl (by decide) g375 (by decide) (fun _ h => by cases h) (fun q => ?_)
  refine e_comm ?_
  refine e_astore C d_L_ask_13 rfl ?_
  refine e_iconst C d_L_ask_15 (v := 1) (by decide) ?_
  exact e_iret C E d_L_ask_16 (Nat.le_refl _) (Nat.le_refl _) rfl ⟨rfl, rfl⟩
set_option maxRecDepth 100000 in
theorem tz_L_ask2 {x1 x2 : Int32} (he : wc[0]? = some (b, ob 0 fs)) (hM : Cth l G y_C_ask c_C_ask 4 (some .int) (rc 6 1 6 90) [.ref b, .int x1, .int x2] wc "java/lang/UnsupportedOperationException") : ConZ l G y_L_ask c_L_ask 5 (some .int) [(0, 10, 13, 13), (0, 10, 17, 19)] (rc 7 1 6 120) [.ref b, .int x1, .int x2, .ref o] ([(o, aJ G.2.2.2 1 f)] ++ wc) (DI 2 ([(o, aJ G.2.2.2 1 f)] ++ wc)) := by
  refine ConZ.of rfl rfl (fun X C E Z hT hR hl => ?_)
  subst hl
  refine e_aload_n C d_L_ask_0 rfl ?_
  refine e_iconst C d_L_ask_1 (v := nI 0) (by decide) ?_
  refine e_aload_n C d_L_ask_2 rfl ?_
  refine e_iload_n C d_L_ask_3 rfl ?_
  refine e_iload_n C d_L_ask_4 rfl ?_
  refine e_comm ?_
  refine e_cT (cls := "java/lang/UnsupportedOperationException") C Z hR 0 hM g617 g1 g614 g615 g616 d_L_ask_5 rfl ey_C_ask rfl he rfl rfl (Nat.le_refl _) (Nat.le_refl _) (pr := [(0, 10, 13, 13)]) hT rfl (by decide) g613 (by decide) (fun z h => by rw [List.mem_singleton] at h; subst h; exact ⟨by decide, "java/lang/IndexOutOfBoundsException", g375, Z.2.1.2.2.2⟩) (fun q => ?_)
  refine e_comm ?_
  refine e_astore C d_L_ask_17 rfl ?_
  refine e_iconst C d_L_ask_19 (v := 2) (by decide) ?_
  exact e_iret C E d_L_ask_20 (Nat.le_refl _) (Nat.le_refl _) rfl ⟨rfl, rfl⟩
set_option maxRecDepth 100000 in
theorem kz_L_answer (he : wc[0]? = some (b, ob 0 fs)) (hM : Con l G y_C_answer c_C_answer 3 (some .int) (rz 6 149) [.ref b] wc (DI r0 W')) : ConZ l G y_L_answer c_L_answer 3 (some .int) [(0, 8, 11, 25)] (rz 9 300) [.ref b, .ref o] ([(o, aJ G.2.2.2 1 f)] ++ wc) (DI 0 ([(o, aJ G.2.2.2 1 (vp_updL f 0 r0.toInt64))] ++ W')) := by
  refine ConZ.of rfl rfl (fun X C E Z hT hR hl => ?_)
  subst hl
  refine e_aload_n C d_L_answer_0 rfl ?_
  refine e_iconst C d_L_answer_1 (v := nI 0) (by decide) ?_
  refine e_aload_n C d_L_answer_2 rfl ?_
  refine e_comm ?_
  refine e_cW C hR 0 hM g653 g1 g650 g651 g652 d_L_answer_3 rfl ey_C_answer rfl he rfl rfl ⟨Nat.zero_le _, Nat.zero_le _⟩ ?_
  refine e_comm ?_
  refine e_i2l C d_L_answer_6 rfl ?_
  refine e_last C 0 2 d_L_answer_7 rfl rfl 0 rfl (by decide) (by decide) ?_
  refine e_goto C d_L_answer_8 (tgt := 14) (by decide) ?_
  refine e_iconst C d_L_answer_14 (v := 0) (by decide) ?_
  exact e_iret C E d_L_answer_15 (Nat.le_refl _) (Nat.le_refl _) rfl ⟨rfl, rfl⟩
set_option maxRecDepth 100000 in
theorem tz_L_answer (he : wc[0]? = some (b, ob 0 fs)) (hM : Cth l G y_C_answer c_C_answer 3 (some .int) (rc 6 1 6 90) [.ref b] wc "java/util/NoSuchElementException") : ConZ l G y_L_answer c_L_answer 3 (some .int) [(0, 8, 11, 25)] (rc 7 1 6 120) [.ref b, .ref o] ([(o, aJ G.2.2.2 1 f)] ++ wc) (DI 1 ([(o, aJ G.2.2.2 1 f)] ++ wc)) := by
  refine ConZ.of rfl rfl (fun X C E Z hT hR hl => ?_)
  subst hl
  refine e_aload_n C d_L_answer_0 rfl ?_
  refine e_iconst C d_L_answer_1 (v := nI 0) (by decide) ?_
  refine e_aload_n C d_L_answer_2 rfl ?_
  refine e_comm ?_
  refine e_cT (cls := "java/util/NoSuchElementException") C Z hR 0 hM g653 g1 g650 g651 g652 d_L_answer_3 rfl ey_C_answer rfl he rfl rfl (Nat.le_refl _) (Nat.le_refl _) (pr := []) hT rfl (by decide) g649 (by decide) (fun _ h => by cases h) (fun q => ?_)
  refine e_comm ?_
  refine e_astore_n C d_L_answer_11 rfl ?_
  refine e_iconst C d_L_answer_12 (v := 1) (by decide) ?_
  exact e_iret C E d_L_answer_13 (Nat.le_refl _) (Nat.le_refl _) rfl ⟨rfl, rfl⟩
set_option maxRecDepth 100000 in
theorem kz_L_answered {x1 x2 : Int32} (he : wc[0]? = some (b, ob 0 fs)) (hM : Con l G y_C_answered c_C_answered 3 (some .int) (rz 5 104) [.ref b, .int x1, .int x2] wc (DI r0 W')) : ConZ l G y_L_answered c_L_answered 5 (some .int) [(0, 10, 13, 13)] (rz 9 300) [.ref b, .int x1, .int x2, .ref o] ([(o, aJ G.2.2.2 1 f)] ++ wc) (DI 0 ([(o, aJ G.2.2.2 1 (vp_updL f 0 r0.toInt64))] ++ W')) := by
  refine ConZ.of rfl rfl (fun X C E Z hT hR hl => ?_)
  subst hl
  refine e_aload_n C d_L_answered_0 rfl ?_
  refine e_iconst C d_L_answered_1 (v := nI 0) (by decide) ?_
  refine e_aload_n C d_L_answered_2 rfl ?_
  refine e_iload_n C d_L_answered_3 rfl ?_
  refine e_iload_n C d_L_answered_4 rfl ?_
  refine e_comm ?_
  refine e_cW C hR 0 hM g680 g1 g677 g678 g679 d_L_answered_5 rfl ey_C_answered rfl he rfl rfl ⟨Nat.zero_le _, Nat.zero_le _⟩ ?_
  refine e_comm ?_
  refine e_i2l C d_L_answered_8 rfl ?_
  refine e_last C 0 2 d_L_answered_9 rfl rfl 0 rfl (by decide) (by decide) ?_
  refine e_goto C d_L_answered_10 (tgt := 17) (by decide) ?_
  refine e_iconst C d_L_answered_17 (v := 0) (by decide) ?_
  exact e_iret C E d_L_answered_18 (Nat.le_refl _) (Nat.le_refl _) rfl ⟨rfl, rfl⟩
set_option maxRecDepth 100000 in
theorem tz_L_answered {x1 x2 : Int32} (he : wc[0]? = some (b, ob 0 fs)) (hM : Cth l G y_C_answered c_C_answered 3 (some .int) (rc 6 1 6 90) [.ref b, .int x1, .int x2] wc "java/lang/IndexOutOfBoundsException") : ConZ l G y_L_answered c_L_answered 5 (some .int) [(0, 10, 13, 13)] (rc 7 1 6 120) [.ref b, .int x1, .int x2, .ref o] ([(o, aJ G.2.2.2 1 f)] ++ wc) (DI 1 ([(o, aJ G.2.2.2 1 f)] ++ wc)) := by
  refine ConZ.of rfl rfl (fun X C E Z hT hR hl => ?_)
  subst hl
  refine e_aload_n C d_L_answered_0 rfl ?_
  refine e_iconst C d_L_answered_1 (v := nI 0) (by decide) ?_
  refine e_aload_n C d_L_answered_2 rfl ?_
  refine e_iload_n C d_L_answered_3 rfl ?_
  refine e_iload_n C d_L_answered_4 rfl ?_
  refine e_comm ?_
  refine e_cT (cls := "java/lang/IndexOutOfBoundsException") C Z hR 0 hM g680 g1 g677 g678 g679 d_L_answered_5 rfl ey_C_answered rfl he rfl rfl (Nat.le_refl _) (Nat.le_refl _) (pr := []) hT rfl (by decide) g375 (by decide) (fun _ h => by cases h) (fun q => ?_)
  refine e_comm ?_
  refine e_astore C d_L_answered_13 rfl ?_
  refine e_iconst C d_L_answered_15 (v := 1) (by decide) ?_
  exact e_iret C E d_L_answered_16 (Nat.le_refl _) (Nat.le_refl _) rfl ⟨rfl, rfl⟩
set_option maxRecDepth 100000 in
theorem kz_L_way {x1 x2 x3 : Int32} (he : wc[0]? = some (b, ob 0 fs)) (hM : Con l G y_C_way c_C_way 5 (some .int) (rz 5 104) [.ref b, .int x1, .int x2, .int x3] wc (DI r0 W')) : ConZ l G y_L_way c_L_way 6 (some .int) [(0, 12, 15, 13)] (rz 9 300) [.ref b, .int x1, .int x2, .int x3, .ref o] ([(o, aJ G.2.2.2 1 f)] ++ wc) (DI 0 ([(o, aJ G.2.2.2 1 (vp_updL f 0 r0.toInt64))] ++ W')) := by
  refine ConZ.of rfl rfl (fun X C E Z hT hR hl => ?_)
  subst hl
  refine e_aload C d_L_way_0 rfl ?_
  refine e_iconst C d_L_way_2 (v := nI 0) (by decide) ?_
  refine e_aload_n C d_L_way_3 rfl ?_
  refine e_iload_n C d_L_way_4 rfl ?_
  refine e_iload_n C d_L_way_5 rfl ?_
  refine e_iload_n C d_L_way_6 rfl ?_
  refine e_comm ?_
  refine e_cW C hR 0 hM g688 g1 g685 g686 g687 d_L_way_7 rfl ey_C_way rfl he rfl rfl ⟨Nat.zero_le _, Nat.zero_le _⟩ ?_
  refine e_comm ?_
  refine e_i2l C d_L_way_10 rfl ?_
  refine e_last C 0 2 d_L_way_11 rfl rfl 0 rfl (by decide) (by decide) ?_
  refine e_goto C d_L_way_12 (tgt := 19) (by decide) ?_
  refine e_iconst C d_L_way_19 (v := 0) (by decide) ?_
  exact e_iret C E d_L_way_20 (Nat.le_refl _) (Nat.le_refl _) rfl ⟨rfl, rfl⟩
set_option maxRecDepth 100000 in
theorem tz_L_way {x1 x2 x3 : Int32} (he : wc[0]? = some (b, ob 0 fs)) (hM : Cth l G y_C_way c_C_way 5 (some .int) (rc 6 1 6 90) [.ref b, .int x1, .int x2, .int x3] wc "java/lang/IndexOutOfBoundsException") : ConZ l G y_L_way c_L_way 6 (some .int) [(0, 12, 15, 13)] (rc 7 1 6 120) [.ref b, .int x1, .int x2, .int x3, .ref o] ([(o, aJ G.2.2.2 1 f)] ++ wc) (DI 1 ([(o, aJ G.2.2.2 1 f)] ++ wc)) := by
  refine ConZ.of rfl rfl (fun X C E Z hT hR hl => ?_)
  subst hl
  refine e_aload C d_L_way_0 rfl ?_
  refine e_iconst C d_L_way_2 (v := nI 0) (by decide) ?_
  refine e_aload_n C d_L_way_3 rfl ?_
  refine e_iload_n C d_L_way_4 rfl ?_
  refine e_iload_n C d_L_way_5 rfl ?_
  refine e_iload_n C d_L_way_6 rfl ?_
  refine e_comm ?_
  refine e_cT (cls := "java/lang/IndexOutOfBoundsException") C Z hR 0 hM g688 g1 g685 g686 g687 d_L_way_7 rfl ey_C_way rfl he rfl rfl (Nat.le_refl _) (Nat.le_refl _) (pr := []) hT rfl (by decide) g375 (by decide) (fun _ h => by cases h) (fun q => ?_)
  refine e_comm ?_
  refine e_astore C d_L_way_15 rfl ?_
  refine e_iconst C d_L_way_17 (v := 1) (by decide) ?_
  exact e_iret C E d_L_way_18 (Nat.le_refl _) (Nat.le_refl _) rfl ⟨rfl, rfl⟩
set_option maxRecDepth 100000 in
theorem kz_L_caught {x1 x2 : Int32} (he : wc[0]? = some (b, ob 0 fs)) (hM : Con l G y_C_caught c_C_caught 3 (some .int) (rz 5 104) [.ref b, .int x1, .int x2] wc (DI r0 W')) : ConZ l G y_L_caught c_L_caught 5 (some .int) [(0, 10, 13, 13)] (rz 9 300) [.ref b, .int x1, .int x2, .ref o] ([(o, aJ G.2.2.2 1 f)] ++ wc) (DI 0 ([(o, aJ G.2.2.2 1 (vp_updL f 0 r0.toInt64))] ++ W')) := by
  refine ConZ.of rfl rfl (fun X C E Z hT hR hl => ?_)
  subst hl
  refine e_aload_n C d_L_caught_0 rfl ?_
  refine e_iconst C d_L_caught_1 (v := nI 0) (by decide) ?_
  refine e_aload_n C d_L_caught_2 rfl ?_
  refine e_iload_n C d_L_caught_3 rfl ?_
  refine e_iload_n C d_L_caught_4 rfl ?_
  refine e_comm ?_
  refine e_cW C hR 0 hM g697 g1 g694 g695 g696 d_L_caught_5 rfl ey_C_caught rfl he rfl rfl ⟨Nat.zero_le _, Nat.zero_le _⟩ ?_
  refine e_comm ?_
  refine e_i2l C d_L_caught_8 rfl ?_
  refine e_last C 0 2 d_L_caught_9 rfl rfl 0 rfl (by decide) (by decide) ?_
  refine e_goto C d_L_caught_10 (tgt := 17) (by decide) ?_
  refine e_iconst C d_L_caught_17 (v := 0) (by decide) ?_
  exact e_iret C E d_L_caught_18 (Nat.le_refl _) (Nat.le_refl _) rfl ⟨rfl, rfl⟩
set_option maxRecDepth 100000 in
theorem tz_L_caught {x1 x2 : Int32} (he : wc[0]? = some (b, ob 0 fs)) (hM : Cth l G y_C_caught c_C_caught 3 (some .int) (rc 6 1 6 90) [.ref b, .int x1, .int x2] wc "java/lang/IndexOutOfBoundsException") : ConZ l G y_L_caught c_L_caught 5 (some .int) [(0, 10, 13, 13)] (rc 7 1 6 120) [.ref b, .int x1, .int x2, .ref o] ([(o, aJ G.2.2.2 1 f)] ++ wc) (DI 1 ([(o, aJ G.2.2.2 1 f)] ++ wc)) := by
  refine ConZ.of rfl rfl (fun X C E Z hT hR hl => ?_)
  subst hl
  refine e_aload_n C d_L_caught_0 rfl ?_
  refine e_iconst C d_L_caught_1 (v := nI 0) (by decide) ?_
  refine e_aload_n C d_L_caught_2 rfl ?_
  refine e_iload_n C d_L_caught_3 rfl ?_
  refine e_iload_n C d_L_caught_4 rfl ?_
  refine e_comm ?_
  refine e_cT (cls := "java/lang/IndexOutOfBoundsException") C Z hR 0 hM g697 g1 g694 g695 g696 d_L_caught_5 rfl ey_C_caught rfl he rfl rfl (Nat.le_refl _) (Nat.le_refl _) (pr := []) hT rfl (by decide) g375 (by decide) (fun _ h => by cases h) (fun q => ?_)
  refine e_comm ?_
  refine e_astore C d_L_caught_13 rfl ?_
  refine e_iconst C d_L_caught_15 (v := 1) (by decide) ?_
  exact e_iret C E d_L_caught_16 (Nat.le_refl _) (Nat.le_refl _) rfl ⟨rfl, rfl⟩
set_option maxRecDepth 100000 in
theorem kz_L_next {x1 : Int32} (he : wc[0]? = some (b, ob 0 fs)) (hM : Con l G y_C_next c_C_next 2 (some .int) (rz 5 104) [.ref b, .int x1] wc (DI r0 W')) : ConZ l G y_L_next c_L_next 4 (some .int) [(0, 9, 12, 13)] (rz 9 300) [.ref b, .int x1, .ref o] ([(o, aJ G.2.2.2 1 f)] ++ wc) (DI 0 ([(o, aJ G.2.2.2 1 (vp_updL f 0 r0.toInt64))] ++ W')) := by
  refine ConZ.of rfl rfl (fun X C E Z hT hR hl => ?_)
  subst hl
  refine e_aload_n C d_L_next_0 rfl ?_
  refine e_iconst C d_L_next_1 (v := nI 0) (by decide) ?_
  refine e_aload_n C d_L_next_2 rfl ?_
  refine e_iload_n C d_L_next_3 rfl ?_
  refine e_comm ?_
  refine e_cW C hR 0 hM g705 g1 g702 g703 g704 d_L_next_4 rfl ey_C_next rfl he rfl rfl ⟨Nat.zero_le _, Nat.zero_le _⟩ ?_
  refine e_comm ?_
  refine e_i2l C d_L_next_7 rfl ?_
  refine e_last C 0 2 d_L_next_8 rfl rfl 0 rfl (by decide) (by decide) ?_
  refine e_goto C d_L_next_9 (tgt := 15) (by decide) ?_
  refine e_iconst C d_L_next_15 (v := 0) (by decide) ?_
  exact e_iret C E d_L_next_16 (Nat.le_refl _) (Nat.le_refl _) rfl ⟨rfl, rfl⟩
set_option maxRecDepth 100000 in
theorem tz_L_next {x1 : Int32} (he : wc[0]? = some (b, ob 0 fs)) (hM : Cth l G y_C_next c_C_next 2 (some .int) (rc 6 1 6 90) [.ref b, .int x1] wc "java/lang/IndexOutOfBoundsException") : ConZ l G y_L_next c_L_next 4 (some .int) [(0, 9, 12, 13)] (rc 7 1 6 120) [.ref b, .int x1, .ref o] ([(o, aJ G.2.2.2 1 f)] ++ wc) (DI 1 ([(o, aJ G.2.2.2 1 f)] ++ wc)) := by
  refine ConZ.of rfl rfl (fun X C E Z hT hR hl => ?_)
  subst hl
  refine e_aload_n C d_L_next_0 rfl ?_
  refine e_iconst C d_L_next_1 (v := nI 0) (by decide) ?_
  refine e_aload_n C d_L_next_2 rfl ?_
  refine e_iload_n C d_L_next_3 rfl ?_
  refine e_comm ?_
  refine e_cT (cls := "java/lang/IndexOutOfBoundsException") C Z hR 0 hM g705 g1 g702 g703 g704 d_L_next_4 rfl ey_C_next rfl he rfl rfl (Nat.le_refl _) (Nat.le_refl _) (pr := []) hT rfl (by decide) g375 (by decide) (fun _ h => by cases h) (fun q => ?_)
  refine e_comm ?_
  refine e_astore_n C d_L_next_12 rfl ?_
  refine e_iconst C d_L_next_13 (v := 1) (by decide) ?_
  exact e_iret C E d_L_next_14 (Nat.le_refl _) (Nat.le_refl _) rfl ⟨rfl, rfl⟩
set_option maxRecDepth 100000 in
theorem kz_L_misses {x1 : Int32} (he : wc[0]? = some (b, ob 0 fs)) (hM : Con l G y_C_misses c_C_misses 2 (some .int) (rz 5 104) [.ref b, .int x1] wc (DI r0 W')) : ConZ l G y_L_misses c_L_misses 4 (some .int) [(0, 9, 12, 44)] (rz 9 300) [.ref b, .int x1, .ref o] ([(o, aJ G.2.2.2 1 f)] ++ wc) (DI 0 ([(o, aJ G.2.2.2 1 (vp_updL f 0 r0.toInt64))] ++ W')) := by
  refine ConZ.of rfl rfl (fun X C E Z hT hR hl => ?_)
  subst hl
  refine e_aload_n C d_L_misses_0 rfl ?_
  refine e_iconst C d_L_misses_1 (v := nI 0) (by decide) ?_
  refine e_aload_n C d_L_misses_2 rfl ?_
  refine e_iload_n C d_L_misses_3 rfl ?_
  refine e_comm ?_
  refine e_cW C hR 0 hM g714 g1 g711 g712 g713 d_L_misses_4 rfl ey_C_misses rfl he rfl rfl ⟨Nat.zero_le _, Nat.zero_le _⟩ ?_
  refine e_comm ?_
  refine e_i2l C d_L_misses_7 rfl ?_
  refine e_last C 0 2 d_L_misses_8 rfl rfl 0 rfl (by decide) (by decide) ?_
  refine e_goto C d_L_misses_9 (tgt := 15) (by decide) ?_
  refine e_iconst C d_L_misses_15 (v := 0) (by decide) ?_
  exact e_iret C E d_L_misses_16 (Nat.le_refl _) (Nat.le_refl _) rfl ⟨rfl, rfl⟩
set_option maxRecDepth 100000 in
theorem tz_L_misses {x1 : Int32} (he : wc[0]? = some (b, ob 0 fs)) (hM : Cth l G y_C_misses c_C_misses 2 (some .int) (rc 6 1 6 90) [.ref b, .int x1] wc "java/lang/IllegalArgumentException") : ConZ l G y_L_misses c_L_misses 4 (some .int) [(0, 9, 12, 44)] (rc 7 1 6 120) [.ref b, .int x1, .ref o] ([(o, aJ G.2.2.2 1 f)] ++ wc) (DI 1 ([(o, aJ G.2.2.2 1 f)] ++ wc)) := by
  refine ConZ.of rfl rfl (fun X C E Z hT hR hl => ?_)
  subst hl
  refine e_aload_n C d_L_misses_0 rfl ?_
  refine e_iconst C d_L_misses_1 (v := nI 0) (by decide) ?_
  refine e_aload_n C d_L_misses_2 rfl ?_
  refine e_iload_n C d_L_misses_3 rfl ?_
  refine e_comm ?_
  refine e_cT (cls := "java/lang/IllegalArgumentException") C Z hR 0 hM g714 g1 g711 g712 g713 d_L_misses_4 rfl ey_C_misses rfl he rfl rfl (Nat.le_refl _) (Nat.le_refl _) (pr := []) hT rfl (by decide) g710 (by decide) (fun _ h => by cases h) (fun q => ?_)
  refine e_comm ?_
  refine e_astore_n C d_L_misses_12 rfl ?_
  refine e_iconst C d_L_misses_13 (v := 1) (by decide) ?_
  exact e_iret C E d_L_misses_14 (Nat.le_refl _) (Nat.le_refl _) rfl ⟨rfl, rfl⟩
end WR1
