/-! THE LAW: its start -/
/-- a cell of the script, 0 behind its end -/
def clX (Ls : Nat) (xs : Nat → Int32) (j : Nat) : Int32 := if j < Ls then xs j else 0
set_option maxRecDepth 100000 in
theorem law_start {X : EX} {G : EG} {bs Ls : Nat} {xs : Nat → Int32} (C : EC X G "CacheRulesLaw" code 7) (hXs : va_X bs Ls xs X.s X.H0) (hbl : bs < X.H0.size) (hbA : ¬ X.A bs) (hX : X.R = room_1) (hL : Ls ≤ 2052)
    (KK : ∀ (a a2 : Nat → Nat) (o S wd V kd : Nat) (f : Nat → Int64), REL S wd V kd 0 (c0S S wd V kd) (m0S S wd V kd) → EW X G 7 104 4024 63 (LV bs o a a2 4) [] (LW G o a a2 f (c0S S wd V kd) (m0S S wd V kd) S wd V kd)) : EW X G 7 0 0 0 [(0, .ref bs)] [] [] := by
  obtain ⟨S, hS⟩ : ∃ S, S = 2 ^ mdN (clX Ls xs 0) 5 := ⟨_, rfl⟩
  obtain ⟨wd, hw⟩ : ∃ wd, wd = 1 + mdN (clX Ls xs 1 - 1) 8 := ⟨_, rfl⟩
  obtain ⟨kd, hk⟩ : ∃ kd, kd = mdN (clX Ls xs 2) 10 := ⟨_, rfl⟩
  obtain ⟨V, hV⟩ : ∃ V, V = mdN (clX Ls xs 3) 5 := ⟨_, rfl⟩
  have hR : REL S wd V kd 0 (c0S S wd V kd) (m0S S wd V kd) := by
    have q1 := mdN_lt (x := clX Ls xs 0) (n := 5) (by decide)
    have q2 := mdN_lt (x := clX Ls xs 1 - 1) (n := 8) (by decide)
    have q3 := mdN_lt (x := clX Ls xs 2) (n := 10) (by decide)
    have q4 := mdN_lt (x := clX Ls xs 3) (n := 5) (by decide)
    exact first_tie (k := mdN (clX Ls xs 0) 5) (by omega) hS (by omega) (by omega) (by omega) (by omega)
  refine e_new C (ci := 0) [.null, .null, .null, .null, .null, .null, .int 0, .int 0, .int 0, .int 0, .int 0, .int 0] in_C tk_C g23 g24 g1 d_law_0 rfl (by decide) (by rw [hX]; show _ ≤ 601024; omega) (by rw [hX]; show _ ≤ 7293000; omega) (fun q => ?_)
  refine e_dup C d_law_3 rfl ?_
  refine e_aload_n C d_law_4 rfl ?_
  refine e_iconst C d_law_5 (v := nI 0) (by decide) ?_
  refine e_cX C hXs hbl hbA hX (k_L_cell (j := 0) hL (by omega)) g371 g0 g369 g370 d_law_6 rfl ey_L_cell rfl rfl (by show _ ≤ 601024; omega) (by show _ ≤ 7293000; omega) (fun r u hB => ?_)
  obtain ⟨rfl, rfl⟩ := hB
  refine e_aload_n C d_law_9 rfl ?_
  refine e_iconst C d_law_10 (v := nI 1) (by decide) ?_
  refine e_cX C hXs hbl hbA hX (k_L_cell (j := 1) hL (by omega)) g371 g0 g369 g370 d_law_11 rfl ey_L_cell rfl rfl (by show _ ≤ 601024; omega) (by show _ ≤ 7293000; omega) (fun r u hB => ?_)
  obtain ⟨rfl, rfl⟩ := hB
  refine e_aload_n C d_law_14 rfl ?_
  refine e_iconst C d_law_15 (v := nI 2) (by decide) ?_
  refine e_cX C hXs hbl hbA hX (k_L_cell (j := 2) hL (by omega)) g371 g0 g369 g370 d_law_16 rfl ey_L_cell rfl rfl (by show _ ≤ 601024; omega) (by show _ ≤ 7293000; omega) (fun r u hB => ?_)
  obtain ⟨rfl, rfl⟩ := hB
  refine e_aload_n C d_law_19 rfl ?_
  refine e_iconst C d_law_20 (v := nI 3) (by decide) ?_
  refine e_cX C hXs hbl hbA hX (k_L_cell (j := 3) hL (by omega)) g371 g0 g369 g370 d_law_21 rfl ey_L_cell rfl rfl (by show _ ≤ 601024; omega) (by show _ ≤ 7293000; omega) (fun r u hB => ?_)
  obtain ⟨rfl, rfl⟩ := hB
  refine e_cI C hX (wr := []) (k_C_init hS hw hk hV) g27 g1 g25 g26 d_law_24 rfl rfl ey_C_init rfl rfl rfl (by show _ ≤ 601024; omega) (by show _ ≤ 7293000; omega) (fun r u hB => ?_)
  obtain ⟨rfl, a, ha, rfl⟩ := hB
  refine e_astore_n C d_law_27 rfl ?_
  refine e_new C (ci := 11) [.int 0, .int 0, .int 0, .int 0, .int 0, .int 0, .int 0, .null, .null, .null, .null, .null, .int 0, .null, .null, .null, .null, .null, .null, .null, .int 0, .int 0, .null, .null, .null, .int 0, .null, .null, .int 0, .null, .null, .int 0, .null, .null, .null, .null] in_M tk_M g735 g736 g14 d_law_28 rfl (by decide) (by rw [hX]; show _ ≤ 601024; omega) (by rw [hX]; show _ ≤ 7293000; omega) (fun q2 => ?_)
  refine e_dup C d_law_31 rfl ?_
  refine e_eq (ws' := [] ++ (wK G a (c0S S wd V kd) S wd V kd ++ [(q2, ob 11 [.int 0, .int 0, .int 0, .int 0, .int 0, .int 0, .int 0, .null, .null, .null, .null, .null, .int 0, .null, .null, .null, .null, .null, .null, .null, .int 0, .int 0, .null, .null, .null, .int 0, .null, .null, .int 0, .null, .null, .int 0, .null, .null, .null, .null])])) (by rw [List.append_nil, List.nil_append]) ?_
  refine e_aload_n C d_law_32 rfl ?_
  refine e_iconst C d_law_33 (v := nI 0) (by decide) ?_
  refine e_cX C hXs hbl hbA hX (k_L_cell (j := 0) hL (by omega)) g371 g0 g369 g370 d_law_34 rfl ey_L_cell rfl rfl (by show _ ≤ 601024; omega) (by show _ ≤ 7293000; omega) (fun r u hB => ?_)
  obtain ⟨rfl, rfl⟩ := hB
  refine e_aload_n C d_law_37 rfl ?_
  refine e_iconst C d_law_38 (v := nI 1) (by decide) ?_
  refine e_cX C hXs hbl hbA hX (k_L_cell (j := 1) hL (by omega)) g371 g0 g369 g370 d_law_39 rfl ey_L_cell rfl rfl (by show _ ≤ 601024; omega) (by show _ ≤ 7293000; omega) (fun r u hB => ?_)
  obtain ⟨rfl, rfl⟩ := hB
  refine e_aload_n C d_law_42 rfl ?_
  refine e_iconst C d_law_43 (v := nI 2) (by decide) ?_
  refine e_cX C hXs hbl hbA hX (k_L_cell (j := 2) hL (by omega)) g371 g0 g369 g370 d_law_44 rfl ey_L_cell rfl rfl (by show _ ≤ 601024; omega) (by show _ ≤ 7293000; omega) (fun r u hB => ?_)
  obtain ⟨rfl, rfl⟩ := hB
  refine e_aload_n C d_law_47 rfl ?_
  refine e_iconst C d_law_48 (v := nI 3) (by decide) ?_
  refine e_cX C hXs hbl hbA hX (k_L_cell (j := 3) hL (by omega)) g371 g0 g369 g370 d_law_49 rfl ey_L_cell rfl rfl (by show _ ≤ 601024; omega) (by show _ ≤ 7293000; omega) (fun r u hB => ?_)
  obtain ⟨rfl, rfl⟩ := hB
  refine e_eq (List.nil_append _) ?_
  refine e_comm ?_
  refine e_cI C hX (wr := wK G a (c0S S wd V kd) S wd V kd) (k_M_init hS hw hk hV) g739 g14 g737 g738 d_law_52 rfl rfl ey_M_init rfl rfl rfl (by show _ ≤ 601024; omega) (by show _ ≤ 7293000; omega) (fun r u hB => ?_)
  obtain ⟨rfl, a2, ha2, rfl⟩ := hB
  refine e_astore_n C d_law_55 rfl ?_
  refine e_iconst C d_law_56 (v := nI 1) (by decide) ?_
  refine e_newaJ C 1 d_law_57 rfl (by omega) (by rw [hX]; show _ ≤ 601024; omega) (by rw [hX]; show _ ≤ 7293000; omega) (fun o => ?_)
  refine e_astore_n C d_law_59 rfl ?_
  refine e_iconst C d_law_60 (v := nI 4) (by decide) ?_
  refine e_istore C d_law_61 rfl ?_
  subst ha
  subst ha2
  have h2 := KK a a2 o S wd V kd (fun _ => 0) hR
  refine e_prm (ws' := LW G o a a2 (fun _ => 0) (c0S S wd V kd) (m0S S wd V kd) S wd V kd) ?_ ?_
  · refine List.perm_append_comm.trans ((List.Perm.append_left _ List.perm_append_comm).trans ?_)
    rw [← List.append_assoc]
    exact List.Perm.refl _
  · exact e_lv2 (e_widen (by omega) (by omega) h2) rfl
