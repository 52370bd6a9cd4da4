/-! THE LAW'S WRAPPERS -/
theorem ey_L_access : eY y_L_access 5 = true := by decide +kernel
theorem d_L_access_0 : decode c_L_access 0 = .ok (.aload 4, 2) := by decide +kernel
theorem d_L_access_2 : decode c_L_access 2 = .ok (.iconst 0, 1) := by decide +kernel
theorem d_L_access_3 : decode c_L_access 3 = .ok (.aload_n 0, 1) := by decide +kernel
theorem d_L_access_4 : decode c_L_access 4 = .ok (.iload_n 1, 1) := by decide +kernel
theorem d_L_access_5 : decode c_L_access 5 = .ok (.iload_n 2, 1) := by decide +kernel
theorem d_L_access_6 : decode c_L_access 6 = .ok (.iload_n 3, 1) := by decide +kernel
theorem d_L_access_7 : decode c_L_access 7 = .ok (.invokevirtual 7, 3) := by decide +kernel
theorem d_L_access_10 : decode c_L_access 10 = .ok (.i2l, 1) := by decide +kernel
theorem d_L_access_11 : decode c_L_access 11 = .ok (.lastore, 1) := by decide +kernel
theorem d_L_access_12 : decode c_L_access 12 = .ok (.goto 7, 3) := by decide +kernel
theorem d_L_access_15 : decode c_L_access 15 = .ok (.astore 5, 2) := by decide +kernel
theorem d_L_access_17 : decode c_L_access 17 = .ok (.iconst 1, 1) := by decide +kernel
theorem d_L_access_18 : decode c_L_access 18 = .ok (.ireturn, 1) := by decide +kernel
theorem d_L_access_19 : decode c_L_access 19 = .ok (.iconst 0, 1) := by decide +kernel
theorem d_L_access_20 : decode c_L_access 20 = .ok (.ireturn, 1) := by decide +kernel
section WR1
variable {l : Launch} {G : EG} {a : Nat → Nat} {c : CS} {S wd V kd z lc o : Nat} {f : Nat → Int64}
set_option maxRecDepth 100000 in
theorem k_L_access (h : CI S wd V kd c) {hs : Nat} (hH : HD c.1 hs) (x : Int32) {p : Nat} (hp : p < 4) (wt : Int32) : ConZ l G y_L_access c_L_access 6 (some .int) [(0, 12, 15, 13)] (rz 9 300) [.ref (a 0), .int x, .int (nI p), .int wt, .ref o] ([(o, aJ G.2.2.2 1 f)] ++ wK G a c S wd V kd) (DI 0 ([(o, aJ G.2.2.2 1 (vp_updL f 0 (pfK S wd V kd c x p wt).toInt64))] ++ wK G a (pfS S wd V kd c x p wt) S wd V kd)) := by
  refine ConZ.of rfl rfl (fun X C E Z hT hR hl => ?_)
  refine e_aload C d_L_access_0 rfl ?_
  refine e_iconst C d_L_access_2 (v := nI 0) (by decide) ?_
  refine e_aload_n C d_L_access_3 rfl ?_
  refine e_iload_n C d_L_access_4 rfl ?_
  refine e_iload_n C d_L_access_5 rfl ?_
  refine e_iload_n C d_L_access_6 rfl ?_
  refine e_comm ?_
  refine e_cW C hR 0 (k_C_access h hH x hp wt) g379 g1 g376 g377 g378 d_L_access_7 rfl ey_C_access rfl rfl rfl rfl ⟨Nat.zero_le _, Nat.zero_le _⟩ ?_
  refine e_comm ?_
  refine e_i2l C d_L_access_10 rfl ?_
  refine e_last C 0 2 d_L_access_11 rfl rfl 0 rfl (by decide) (by decide) ?_
  refine e_goto C d_L_access_12 (tgt := 19) (by decide) ?_
  refine e_iconst C d_L_access_19 (v := 0) (by decide) ?_
  exact e_iret C E d_L_access_20 (Nat.le_refl _) (Nat.le_refl _) rfl ⟨rfl, rfl⟩
set_option maxRecDepth 100000 in
theorem t_L_access (hf : l.flags = pinnedFlags ++ [noTraceFlag]) {x p wt : Int32} (hp : p < 0 ∨ ¬ p < 4) : ConZ l G y_L_access c_L_access 6 (some .int) [(0, 12, 15, 13)] (rc 7 1 6 120) [.ref (a 0), .int x, .int p, .int wt, .ref o] ([(o, aJ G.2.2.2 1 f)] ++ wK G a c S wd V kd) (DI 1 ([(o, aJ G.2.2.2 1 f)] ++ wK G a c S wd V kd)) := by
  refine ConZ.of rfl rfl (fun X C E Z hT hR hl => ?_)
  refine e_aload C d_L_access_0 rfl ?_
  refine e_iconst C d_L_access_2 (v := nI 0) (by decide) ?_
  refine e_aload_n C d_L_access_3 rfl ?_
  refine e_iload_n C d_L_access_4 rfl ?_
  refine e_iload_n C d_L_access_5 rfl ?_
  refine e_iload_n C d_L_access_6 rfl ?_
  refine e_comm ?_
  refine e_cT (cls := "java/lang/IndexOutOfBoundsException") C Z hR 0 (t_C_access (b := 0) (by rw [hl]; exact hf) hp) g379 g1 g376 g377 g378 d_L_access_7 rfl ey_C_access rfl rfl rfl rfl (Nat.le_refl _) (Nat.le_refl _) (pr := []) hT rfl (by decide) g375 (by decide) (fun _ h => by cases h) (fun q => ?_)
  refine e_comm ?_
  refine e_astore C d_L_access_15 rfl ?_
  refine e_iconst C d_L_access_17 (v := 1) (by decide) ?_
  exact e_iret C E d_L_access_18 (Nat.le_refl _) (Nat.le_refl _) rfl ⟨rfl, rfl⟩
end WR1
