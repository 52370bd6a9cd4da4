/-! CONSTRUCTORS, by program -/
theorem i_mul (a b : Nat) : nI a * nI b = nI (a * b) := (Int32.ofNat_mul a b).symm
theorem ey_Ways_init : eY y_Ways_init 2 = true := by decide +kernel
theorem d_Ways_init_0 : decode c_Ways_init 0 = .ok (.aload_n 0, 1) := by decide +kernel
theorem d_Ways_init_1 : decode c_Ways_init 1 = .ok (.invokespecial 3, 3) := by decide +kernel
theorem d_Ways_init_4 : decode c_Ways_init 4 = .ok (.aload_n 0, 1) := by decide +kernel
theorem d_Ways_init_5 : decode c_Ways_init 5 = .ok (.iload_n 1, 1) := by decide +kernel
theorem d_Ways_init_6 : decode c_Ways_init 6 = .ok (.putfield 9, 3) := by decide +kernel
theorem d_Ways_init_9 : decode c_Ways_init 9 = .ok (.aload_n 0, 1) := by decide +kernel
theorem d_Ways_init_10 : decode c_Ways_init 10 = .ok (.iload_n 2, 1) := by decide +kernel
theorem d_Ways_init_11 : decode c_Ways_init 11 = .ok (.putfield 15, 3) := by decide +kernel
theorem d_Ways_init_14 : decode c_Ways_init 14 = .ok (.aload_n 0, 1) := by decide +kernel
theorem d_Ways_init_15 : decode c_Ways_init 15 = .ok (.iload_n 1, 1) := by decide +kernel
theorem d_Ways_init_16 : decode c_Ways_init 16 = .ok (.iload_n 2, 1) := by decide +kernel
theorem d_Ways_init_17 : decode c_Ways_init 17 = .ok (.imul, 1) := by decide +kernel
theorem d_Ways_init_18 : decode c_Ways_init 18 = .ok (.putfield 18, 3) := by decide +kernel
theorem d_Ways_init_21 : decode c_Ways_init 21 = .ok (.aload_n 0, 1) := by decide +kernel
theorem d_Ways_init_22 : decode c_Ways_init 22 = .ok (.aload_n 0, 1) := by decide +kernel
theorem d_Ways_init_23 : decode c_Ways_init 23 = .ok (.getfield 18, 3) := by decide +kernel
theorem d_Ways_init_26 : decode c_Ways_init 26 = .ok (.newarray .int, 2) := by decide +kernel
theorem d_Ways_init_28 : decode c_Ways_init 28 = .ok (.putfield 21, 3) := by decide +kernel
theorem d_Ways_init_31 : decode c_Ways_init 31 = .ok (.aload_n 0, 1) := by decide +kernel
theorem d_Ways_init_32 : decode c_Ways_init 32 = .ok (.aload_n 0, 1) := by decide +kernel
theorem d_Ways_init_33 : decode c_Ways_init 33 = .ok (.getfield 18, 3) := by decide +kernel
theorem d_Ways_init_36 : decode c_Ways_init 36 = .ok (.newarray .boolean, 2) := by decide +kernel
theorem d_Ways_init_38 : decode c_Ways_init 38 = .ok (.putfield 25, 3) := by decide +kernel
theorem d_Ways_init_41 : decode c_Ways_init 41 = .ok (.aload_n 0, 1) := by decide +kernel
theorem d_Ways_init_42 : decode c_Ways_init 42 = .ok (.aload_n 0, 1) := by decide +kernel
theorem d_Ways_init_43 : decode c_Ways_init 43 = .ok (.getfield 18, 3) := by decide +kernel
theorem d_Ways_init_46 : decode c_Ways_init 46 = .ok (.newarray .int, 2) := by decide +kernel
theorem d_Ways_init_48 : decode c_Ways_init 48 = .ok (.putfield 29, 3) := by decide +kernel
theorem d_Ways_init_51 : decode c_Ways_init 51 = .ok (.aload_n 0, 1) := by decide +kernel
theorem d_Ways_init_52 : decode c_Ways_init 52 = .ok (.aload_n 0, 1) := by decide +kernel
theorem d_Ways_init_53 : decode c_Ways_init 53 = .ok (.getfield 18, 3) := by decide +kernel
theorem d_Ways_init_56 : decode c_Ways_init 56 = .ok (.newarray .int, 2) := by decide +kernel
theorem d_Ways_init_58 : decode c_Ways_init 58 = .ok (.putfield 32, 3) := by decide +kernel
theorem d_Ways_init_61 : decode c_Ways_init 61 = .ok (.aload_n 0, 1) := by decide +kernel
theorem d_Ways_init_62 : decode c_Ways_init 62 = .ok (.aload_n 0, 1) := by decide +kernel
theorem d_Ways_init_63 : decode c_Ways_init 63 = .ok (.getfield 18, 3) := by decide +kernel
theorem d_Ways_init_66 : decode c_Ways_init 66 = .ok (.newarray .boolean, 2) := by decide +kernel
theorem d_Ways_init_68 : decode c_Ways_init 68 = .ok (.putfield 35, 3) := by decide +kernel
theorem d_Ways_init_71 : decode c_Ways_init 71 = .ok (.return_, 1) := by decide +kernel
set_option maxRecDepth 100000 in
theorem k_Ways_init {l : Launch} {G : EG} {b : Nat} {S wd : Nat} (h : S * wd ≤ 128) : Con l G y_Ways_init c_Ways_init 3 none (rc 1 5 640 20) [.ref b, .int (nI S), .int (nI wd)] [(b, ob 1 [.int 0, .int 0, .int 0, .null, .null, .null, .null, .null])] (fun r u => r = none ∧ ∃ q1 q2 q3 q4 q5 : Nat, u = [(b, ob 1 [.int (nI S), .int (nI wd), .int (nI (S * wd)), .ref q1, .ref q2, .ref q3, .ref q4, .ref q5]), (q1, aI G.2.1 ((S * wd)) (fun _ => 0)), (q2, aI G.2.2.1 ((S * wd)) (fun _ => 0)), (q3, aI G.2.1 ((S * wd)) (fun _ => 0)), (q4, aI G.2.1 ((S * wd)) (fun _ => 0)), (q5, aI G.2.2.1 ((S * wd)) (fun _ => 0))]) := by
  refine Con.of rfl rfl (fun X C E hR hl hn => ?_)
  refine e_aload_n C d_Ways_init_0 rfl ?_
  refine e_obj C hR g39 d_Ways_init_1 rfl ?_
  refine e_aload_n C d_Ways_init_4 rfl ?_
  refine e_iload_n C d_Ways_init_5 rfl ?_
  refine e_putF C hn 0 (k := 0) in_Ways tk_Ways nm_Ways g40 d_Ways_init_6 rfl rfl rfl rfl rfl rfl rfl rfl rfl ?_
  refine e_eq (ws' := [(b, ob 1 [.int (nI S), .int 0, .int 0, .null, .null, .null, .null, .null])]) rfl ?_
  refine e_aload_n C d_Ways_init_9 rfl ?_
  refine e_iload_n C d_Ways_init_10 rfl ?_
  refine e_putF C hn 0 (k := 1) in_Ways tk_Ways nm_Ways g42 d_Ways_init_11 rfl rfl rfl rfl rfl rfl rfl rfl rfl ?_
  refine e_eq (ws' := [(b, ob 1 [.int (nI S), .int (nI wd), .int 0, .null, .null, .null, .null, .null])]) rfl ?_
  refine e_aload_n C d_Ways_init_14 rfl ?_
  refine e_iload_n C d_Ways_init_15 rfl ?_
  refine e_iload_n C d_Ways_init_16 rfl ?_
  refine e_imul C d_Ways_init_17 ?_
  refine e_top (y := nI (S * wd)) (i_mul S wd) ?_
  refine e_putF C hn 0 (k := 2) in_Ways tk_Ways nm_Ways g44 d_Ways_init_18 rfl rfl rfl rfl rfl rfl rfl rfl rfl ?_
  refine e_eq (ws' := [(b, ob 1 [.int (nI S), .int (nI wd), .int (nI (S * wd)), .null, .null, .null, .null, .null])]) rfl ?_
  refine e_aload_n C d_Ways_init_21 rfl ?_
  refine e_aload_n C d_Ways_init_22 rfl ?_
  refine e_get C 0 (k := 2) in_Ways g44 d_Ways_init_23 rfl rfl rfl rfl ?_
  refine e_newa C 0 g73 rfl rfl (fun _ h => h) rfl (by decide) ((S * wd)) d_Ways_init_26 rfl (by omega) (by rw [hR]; show _ ≤ 5; omega) (by rw [hR]; show _ ≤ 640; omega) (fun q1 => ?_)
  refine e_eq (ws' := [(b, ob 1 [.int (nI S), .int (nI wd), .int (nI (S * wd)), .null, .null, .null, .null, .null]), (q1, aI G.2.1 ((S * wd)) (fun _ => 0))]) rfl ?_
  refine e_putF C hn 0 (k := 3) in_Ways tk_Ways nm_Ways g46 d_Ways_init_28 rfl rfl rfl rfl rfl rfl rfl rfl rfl ?_
  refine e_eq (ws' := [(b, ob 1 [.int (nI S), .int (nI wd), .int (nI (S * wd)), .ref q1, .null, .null, .null, .null]), (q1, aI G.2.1 ((S * wd)) (fun _ => 0))]) rfl ?_
  refine e_aload_n C d_Ways_init_31 rfl ?_
  refine e_aload_n C d_Ways_init_32 rfl ?_
  refine e_get C 0 (k := 2) in_Ways g44 d_Ways_init_33 rfl rfl rfl rfl ?_
  refine e_newa C 1 g74 rfl rfl (fun _ h => h) rfl (by decide) ((S * wd)) d_Ways_init_36 rfl (by omega) (by rw [hR]; show _ ≤ 5; omega) (by rw [hR]; show _ ≤ 640; omega) (fun q2 => ?_)
  refine e_eq (ws' := [(b, ob 1 [.int (nI S), .int (nI wd), .int (nI (S * wd)), .ref q1, .null, .null, .null, .null]), (q1, aI G.2.1 ((S * wd)) (fun _ => 0)), (q2, aI G.2.2.1 ((S * wd)) (fun _ => 0))]) rfl ?_
  refine e_putF C hn 0 (k := 4) in_Ways tk_Ways nm_Ways g48 d_Ways_init_38 rfl rfl rfl rfl rfl rfl rfl rfl rfl ?_
  refine e_eq (ws' := [(b, ob 1 [.int (nI S), .int (nI wd), .int (nI (S * wd)), .ref q1, .ref q2, .null, .null, .null]), (q1, aI G.2.1 ((S * wd)) (fun _ => 0)), (q2, aI G.2.2.1 ((S * wd)) (fun _ => 0))]) rfl ?_
  refine e_aload_n C d_Ways_init_41 rfl ?_
  refine e_aload_n C d_Ways_init_42 rfl ?_
  refine e_get C 0 (k := 2) in_Ways g44 d_Ways_init_43 rfl rfl rfl rfl ?_
  refine e_newa C 0 g73 rfl rfl (fun _ h => h) rfl (by decide) ((S * wd)) d_Ways_init_46 rfl (by omega) (by rw [hR]; show _ ≤ 5; omega) (by rw [hR]; show _ ≤ 640; omega) (fun q3 => ?_)
  refine e_eq (ws' := [(b, ob 1 [.int (nI S), .int (nI wd), .int (nI (S * wd)), .ref q1, .ref q2, .null, .null, .null]), (q1, aI G.2.1 ((S * wd)) (fun _ => 0)), (q2, aI G.2.2.1 ((S * wd)) (fun _ => 0)), (q3, aI G.2.1 ((S * wd)) (fun _ => 0))]) rfl ?_
  refine e_putF C hn 0 (k := 5) in_Ways tk_Ways nm_Ways g50 d_Ways_init_48 rfl rfl rfl rfl rfl rfl rfl rfl rfl ?_
  refine e_eq (ws' := [(b, ob 1 [.int (nI S), .int (nI wd), .int (nI (S * wd)), .ref q1, .ref q2, .ref q3, .null, .null]), (q1, aI G.2.1 ((S * wd)) (fun _ => 0)), (q2, aI G.2.2.1 ((S * wd)) (fun _ => 0)), (q3, aI G.2.1 ((S * wd)) (fun _ => 0))]) rfl ?_
  refine e_aload_n C d_Ways_init_51 rfl ?_
  refine e_aload_n C d_Ways_init_52 rfl ?_
  refine e_get C 0 (k := 2) in_Ways g44 d_Ways_init_53 rfl rfl rfl rfl ?_
  refine e_newa C 0 g73 rfl rfl (fun _ h => h) rfl (by decide) ((S * wd)) d_Ways_init_56 rfl (by omega) (by rw [hR]; show _ ≤ 5; omega) (by rw [hR]; show _ ≤ 640; omega) (fun q4 => ?_)
  refine e_eq (ws' := [(b, ob 1 [.int (nI S), .int (nI wd), .int (nI (S * wd)), .ref q1, .ref q2, .ref q3, .null, .null]), (q1, aI G.2.1 ((S * wd)) (fun _ => 0)), (q2, aI G.2.2.1 ((S * wd)) (fun _ => 0)), (q3, aI G.2.1 ((S * wd)) (fun _ => 0)), (q4, aI G.2.1 ((S * wd)) (fun _ => 0))]) rfl ?_
  refine e_putF C hn 0 (k := 6) in_Ways tk_Ways nm_Ways g52 d_Ways_init_58 rfl rfl rfl rfl rfl rfl rfl rfl rfl ?_
  refine e_eq (ws' := [(b, ob 1 [.int (nI S), .int (nI wd), .int (nI (S * wd)), .ref q1, .ref q2, .ref q3, .ref q4, .null]), (q1, aI G.2.1 ((S * wd)) (fun _ => 0)), (q2, aI G.2.2.1 ((S * wd)) (fun _ => 0)), (q3, aI G.2.1 ((S * wd)) (fun _ => 0)), (q4, aI G.2.1 ((S * wd)) (fun _ => 0))]) rfl ?_
  refine e_aload_n C d_Ways_init_61 rfl ?_
  refine e_aload_n C d_Ways_init_62 rfl ?_
  refine e_get C 0 (k := 2) in_Ways g44 d_Ways_init_63 rfl rfl rfl rfl ?_
  refine e_newa C 1 g74 rfl rfl (fun _ h => h) rfl (by decide) ((S * wd)) d_Ways_init_66 rfl (by omega) (by rw [hR]; show _ ≤ 5; omega) (by rw [hR]; show _ ≤ 640; omega) (fun q5 => ?_)
  refine e_eq (ws' := [(b, ob 1 [.int (nI S), .int (nI wd), .int (nI (S * wd)), .ref q1, .ref q2, .ref q3, .ref q4, .null]), (q1, aI G.2.1 ((S * wd)) (fun _ => 0)), (q2, aI G.2.2.1 ((S * wd)) (fun _ => 0)), (q3, aI G.2.1 ((S * wd)) (fun _ => 0)), (q4, aI G.2.1 ((S * wd)) (fun _ => 0)), (q5, aI G.2.2.1 ((S * wd)) (fun _ => 0))]) rfl ?_
  refine e_putF C hn 0 (k := 7) in_Ways tk_Ways nm_Ways g54 d_Ways_init_68 rfl rfl rfl rfl rfl rfl rfl rfl rfl ?_
  refine e_eq (ws' := [(b, ob 1 [.int (nI S), .int (nI wd), .int (nI (S * wd)), .ref q1, .ref q2, .ref q3, .ref q4, .ref q5]), (q1, aI G.2.1 ((S * wd)) (fun _ => 0)), (q2, aI G.2.2.1 ((S * wd)) (fun _ => 0)), (q3, aI G.2.1 ((S * wd)) (fun _ => 0)), (q4, aI G.2.1 ((S * wd)) (fun _ => 0)), (q5, aI G.2.2.1 ((S * wd)) (fun _ => 0))]) rfl ?_
  exact e_vret C E d_Ways_init_71 (by show _ ≤ 5; omega) (by show _ ≤ 640; omega) ⟨rfl, q1, q2, q3, q4, q5, rfl⟩
theorem ey_Rows_init : eY y_Rows_init 1 = true := by decide +kernel
theorem d_Rows_init_0 : decode c_Rows_init 0 = .ok (.aload_n 0, 1) := by decide +kernel
theorem d_Rows_init_1 : decode c_Rows_init 1 = .ok (.invokespecial 3, 3) := by decide +kernel
theorem d_Rows_init_4 : decode c_Rows_init 4 = .ok (.aload_n 0, 1) := by decide +kernel
theorem d_Rows_init_5 : decode c_Rows_init 5 = .ok (.iload_n 1, 1) := by decide +kernel
theorem d_Rows_init_6 : decode c_Rows_init 6 = .ok (.putfield 9, 3) := by decide +kernel
theorem d_Rows_init_9 : decode c_Rows_init 9 = .ok (.aload_n 0, 1) := by decide +kernel
theorem d_Rows_init_10 : decode c_Rows_init 10 = .ok (.iload_n 1, 1) := by decide +kernel
theorem d_Rows_init_11 : decode c_Rows_init 11 = .ok (.newarray .int, 2) := by decide +kernel
theorem d_Rows_init_13 : decode c_Rows_init 13 = .ok (.putfield 15, 3) := by decide +kernel
theorem d_Rows_init_16 : decode c_Rows_init 16 = .ok (.aload_n 0, 1) := by decide +kernel
theorem d_Rows_init_17 : decode c_Rows_init 17 = .ok (.iload_n 1, 1) := by decide +kernel
theorem d_Rows_init_18 : decode c_Rows_init 18 = .ok (.newarray .int, 2) := by decide +kernel
theorem d_Rows_init_20 : decode c_Rows_init 20 = .ok (.putfield 19, 3) := by decide +kernel
theorem d_Rows_init_23 : decode c_Rows_init 23 = .ok (.aload_n 0, 1) := by decide +kernel
theorem d_Rows_init_24 : decode c_Rows_init 24 = .ok (.iload_n 1, 1) := by decide +kernel
theorem d_Rows_init_25 : decode c_Rows_init 25 = .ok (.newarray .int, 2) := by decide +kernel
theorem d_Rows_init_27 : decode c_Rows_init 27 = .ok (.putfield 22, 3) := by decide +kernel
theorem d_Rows_init_30 : decode c_Rows_init 30 = .ok (.return_, 1) := by decide +kernel
set_option maxRecDepth 100000 in
theorem k_Rows_init {l : Launch} {G : EG} {b : Nat} {V : Nat} (h : V ≤ 4) : Con l G y_Rows_init c_Rows_init 2 none (rc 1 3 12 20) [.ref b, .int (nI V)] [(b, ob 2 [.int 0, .null, .null, .null, .int 0])] (fun r u => r = none ∧ ∃ q1 q2 q3 : Nat, u = [(b, ob 2 [.int (nI V), .ref q1, .ref q2, .ref q3, .int 0]), (q1, aI G.2.1 (V) (fun _ => 0)), (q2, aI G.2.1 (V) (fun _ => 0)), (q3, aI G.2.1 (V) (fun _ => 0))]) := by
  refine Con.of rfl rfl (fun X C E hR hl hn => ?_)
  refine e_aload_n C d_Rows_init_0 rfl ?_
  refine e_obj C hR g80 d_Rows_init_1 rfl ?_
  refine e_aload_n C d_Rows_init_4 rfl ?_
  refine e_iload_n C d_Rows_init_5 rfl ?_
  refine e_putF C hn 0 (k := 0) in_Rows tk_Rows nm_Rows g81 d_Rows_init_6 rfl rfl rfl rfl rfl rfl rfl rfl rfl ?_
  refine e_eq (ws' := [(b, ob 2 [.int (nI V), .null, .null, .null, .int 0])]) rfl ?_
  refine e_aload_n C d_Rows_init_9 rfl ?_
  refine e_iload_n C d_Rows_init_10 rfl ?_
  refine e_newa C 0 g73 rfl rfl (fun _ h => h) rfl (by decide) (V) d_Rows_init_11 rfl (by omega) (by rw [hR]; show _ ≤ 3; omega) (by rw [hR]; show _ ≤ 12; omega) (fun q1 => ?_)
  refine e_eq (ws' := [(b, ob 2 [.int (nI V), .null, .null, .null, .int 0]), (q1, aI G.2.1 (V) (fun _ => 0))]) rfl ?_
  refine e_putF C hn 0 (k := 1) in_Rows tk_Rows nm_Rows g83 d_Rows_init_13 rfl rfl rfl rfl rfl rfl rfl rfl rfl ?_
  refine e_eq (ws' := [(b, ob 2 [.int (nI V), .ref q1, .null, .null, .int 0]), (q1, aI G.2.1 (V) (fun _ => 0))]) rfl ?_
  refine e_aload_n C d_Rows_init_16 rfl ?_
  refine e_iload_n C d_Rows_init_17 rfl ?_
  refine e_newa C 0 g73 rfl rfl (fun _ h => h) rfl (by decide) (V) d_Rows_init_18 rfl (by omega) (by rw [hR]; show _ ≤ 3; omega) (by rw [hR]; show _ ≤ 12; omega) (fun q2 => ?_)
  refine e_eq (ws' := [(b, ob 2 [.int (nI V), .ref q1, .null, .null, .int 0]), (q1, aI G.2.1 (V) (fun _ => 0)), (q2, aI G.2.1 (V) (fun _ => 0))]) rfl ?_
  refine e_putF C hn 0 (k := 2) in_Rows tk_Rows nm_Rows g85 d_Rows_init_20 rfl rfl rfl rfl rfl rfl rfl rfl rfl ?_
  refine e_eq (ws' := [(b, ob 2 [.int (nI V), .ref q1, .ref q2, .null, .int 0]), (q1, aI G.2.1 (V) (fun _ => 0)), (q2, aI G.2.1 (V) (fun _ => 0))]) rfl ?_
  refine e_aload_n C d_Rows_init_23 rfl ?_
  refine e_iload_n C d_Rows_init_24 rfl ?_
  refine e_newa C 0 g73 rfl rfl (fun _ h => h) rfl (by decide) (V) d_Rows_init_25 rfl (by omega) (by rw [hR]; show _ ≤ 3; omega) (by rw [hR]; show _ ≤ 12; omega) (fun q3 => ?_)
  refine e_eq (ws' := [(b, ob 2 [.int (nI V), .ref q1, .ref q2, .null, .int 0]), (q1, aI G.2.1 (V) (fun _ => 0)), (q2, aI G.2.1 (V) (fun _ => 0)), (q3, aI G.2.1 (V) (fun _ => 0))]) rfl ?_
  refine e_putF C hn 0 (k := 3) in_Rows tk_Rows nm_Rows g87 d_Rows_init_27 rfl rfl rfl rfl rfl rfl rfl rfl rfl ?_
  refine e_eq (ws' := [(b, ob 2 [.int (nI V), .ref q1, .ref q2, .ref q3, .int 0]), (q1, aI G.2.1 (V) (fun _ => 0)), (q2, aI G.2.1 (V) (fun _ => 0)), (q3, aI G.2.1 (V) (fun _ => 0))]) rfl ?_
  exact e_vret C E d_Rows_init_30 (by show _ ≤ 3; omega) (by show _ ≤ 12; omega) ⟨rfl, q1, q2, q3, rfl⟩
theorem ey_Asks_init : eY y_Asks_init 0 = true := by decide +kernel
theorem d_Asks_init_0 : decode c_Asks_init 0 = .ok (.aload_n 0, 1) := by decide +kernel
theorem d_Asks_init_1 : decode c_Asks_init 1 = .ok (.invokespecial 1, 3) := by decide +kernel
theorem d_Asks_init_4 : decode c_Asks_init 4 = .ok (.aload_n 0, 1) := by decide +kernel
theorem d_Asks_init_5 : decode c_Asks_init 5 = .ok (.bipush 16, 2) := by decide +kernel
theorem d_Asks_init_7 : decode c_Asks_init 7 = .ok (.newarray .int, 2) := by decide +kernel
theorem d_Asks_init_9 : decode c_Asks_init 9 = .ok (.putfield 9, 3) := by decide +kernel
theorem d_Asks_init_12 : decode c_Asks_init 12 = .ok (.aload_n 0, 1) := by decide +kernel
theorem d_Asks_init_13 : decode c_Asks_init 13 = .ok (.bipush 16, 2) := by decide +kernel
theorem d_Asks_init_15 : decode c_Asks_init 15 = .ok (.newarray .int, 2) := by decide +kernel
theorem d_Asks_init_17 : decode c_Asks_init 17 = .ok (.putfield 13, 3) := by decide +kernel
theorem d_Asks_init_20 : decode c_Asks_init 20 = .ok (.aload_n 0, 1) := by decide +kernel
theorem d_Asks_init_21 : decode c_Asks_init 21 = .ok (.iconst 4, 1) := by decide +kernel
theorem d_Asks_init_22 : decode c_Asks_init 22 = .ok (.newarray .int, 2) := by decide +kernel
theorem d_Asks_init_24 : decode c_Asks_init 24 = .ok (.putfield 16, 3) := by decide +kernel
theorem d_Asks_init_27 : decode c_Asks_init 27 = .ok (.aload_n 0, 1) := by decide +kernel
theorem d_Asks_init_28 : decode c_Asks_init 28 = .ok (.bipush 16, 2) := by decide +kernel
theorem d_Asks_init_30 : decode c_Asks_init 30 = .ok (.newarray .int, 2) := by decide +kernel
theorem d_Asks_init_32 : decode c_Asks_init 32 = .ok (.putfield 19, 3) := by decide +kernel
theorem d_Asks_init_35 : decode c_Asks_init 35 = .ok (.aload_n 0, 1) := by decide +kernel
theorem d_Asks_init_36 : decode c_Asks_init 36 = .ok (.bipush 16, 2) := by decide +kernel
theorem d_Asks_init_38 : decode c_Asks_init 38 = .ok (.newarray .int, 2) := by decide +kernel
theorem d_Asks_init_40 : decode c_Asks_init 40 = .ok (.putfield 22, 3) := by decide +kernel
theorem d_Asks_init_43 : decode c_Asks_init 43 = .ok (.return_, 1) := by decide +kernel
set_option maxRecDepth 100000 in
theorem k_Asks_init {l : Launch} {G : EG} {b : Nat} : Con l G y_Asks_init c_Asks_init 1 none (rc 1 5 68 20) [.ref b] [(b, ob 3 [.null, .null, .null, .null, .null, .int 0, .int 0, .int 0])] (fun r u => r = none ∧ ∃ q1 q2 q3 q4 q5 : Nat, u = [(b, ob 3 [.ref q1, .ref q2, .ref q3, .ref q4, .ref q5, .int 0, .int 0, .int 0]), (q1, aI G.2.1 (16) (fun _ => 0)), (q2, aI G.2.1 (16) (fun _ => 0)), (q3, aI G.2.1 (4) (fun _ => 0)), (q4, aI G.2.1 (16) (fun _ => 0)), (q5, aI G.2.1 (16) (fun _ => 0))]) := by
  refine Con.of rfl rfl (fun X C E hR hl hn => ?_)
  refine e_aload_n C d_Asks_init_0 rfl ?_
  refine e_obj C hR g214 d_Asks_init_1 rfl ?_
  refine e_aload_n C d_Asks_init_4 rfl ?_
  refine e_bipush C d_Asks_init_5 (v := nI 16) (by decide) ?_
  refine e_newa C 0 g73 rfl rfl (fun _ h => h) rfl (by decide) (16) d_Asks_init_7 rfl (by omega) (by rw [hR]; show _ ≤ 5; omega) (by rw [hR]; show _ ≤ 68; omega) (fun q1 => ?_)
  refine e_eq (ws' := [(b, ob 3 [.null, .null, .null, .null, .null, .int 0, .int 0, .int 0]), (q1, aI G.2.1 (16) (fun _ => 0))]) rfl ?_
  refine e_putF C hn 0 (k := 0) in_Asks tk_Asks nm_Asks g215 d_Asks_init_9 rfl rfl rfl rfl rfl rfl rfl rfl rfl ?_
  refine e_eq (ws' := [(b, ob 3 [.ref q1, .null, .null, .null, .null, .int 0, .int 0, .int 0]), (q1, aI G.2.1 (16) (fun _ => 0))]) rfl ?_
  refine e_aload_n C d_Asks_init_12 rfl ?_
  refine e_bipush C d_Asks_init_13 (v := nI 16) (by decide) ?_
  refine e_newa C 0 g73 rfl rfl (fun _ h => h) rfl (by decide) (16) d_Asks_init_15 rfl (by omega) (by rw [hR]; show _ ≤ 5; omega) (by rw [hR]; show _ ≤ 68; omega) (fun q2 => ?_)
  refine e_eq (ws' := [(b, ob 3 [.ref q1, .null, .null, .null, .null, .int 0, .int 0, .int 0]), (q1, aI G.2.1 (16) (fun _ => 0)), (q2, aI G.2.1 (16) (fun _ => 0))]) rfl ?_
  refine e_putF C hn 0 (k := 1) in_Asks tk_Asks nm_Asks g216 d_Asks_init_17 rfl rfl rfl rfl rfl rfl rfl rfl rfl ?_
  refine e_eq (ws' := [(b, ob 3 [.ref q1, .ref q2, .null, .null, .null, .int 0, .int 0, .int 0]), (q1, aI G.2.1 (16) (fun _ => 0)), (q2, aI G.2.1 (16) (fun _ => 0))]) rfl ?_
  refine e_aload_n C d_Asks_init_20 rfl ?_
  refine e_iconst C d_Asks_init_21 (v := nI 4) (by decide) ?_
  refine e_newa C 0 g73 rfl rfl (fun _ h => h) rfl (by decide) (4) d_Asks_init_22 rfl (by omega) (by rw [hR]; show _ ≤ 5; omega) (by rw [hR]; show _ ≤ 68; omega) (fun q3 => ?_)
  refine e_eq (ws' := [(b, ob 3 [.ref q1, .ref q2, .null, .null, .null, .int 0, .int 0, .int 0]), (q1, aI G.2.1 (16) (fun _ => 0)), (q2, aI G.2.1 (16) (fun _ => 0)), (q3, aI G.2.1 (4) (fun _ => 0))]) rfl ?_
  refine e_putF C hn 0 (k := 2) in_Asks tk_Asks nm_Asks g217 d_Asks_init_24 rfl rfl rfl rfl rfl rfl rfl rfl rfl ?_
  refine e_eq (ws' := [(b, ob 3 [.ref q1, .ref q2, .ref q3, .null, .null, .int 0, .int 0, .int 0]), (q1, aI G.2.1 (16) (fun _ => 0)), (q2, aI G.2.1 (16) (fun _ => 0)), (q3, aI G.2.1 (4) (fun _ => 0))]) rfl ?_
  refine e_aload_n C d_Asks_init_27 rfl ?_
  refine e_bipush C d_Asks_init_28 (v := nI 16) (by decide) ?_
  refine e_newa C 0 g73 rfl rfl (fun _ h => h) rfl (by decide) (16) d_Asks_init_30 rfl (by omega) (by rw [hR]; show _ ≤ 5; omega) (by rw [hR]; show _ ≤ 68; omega) (fun q4 => ?_)
  refine e_eq (ws' := [(b, ob 3 [.ref q1, .ref q2, .ref q3, .null, .null, .int 0, .int 0, .int 0]), (q1, aI G.2.1 (16) (fun _ => 0)), (q2, aI G.2.1 (16) (fun _ => 0)), (q3, aI G.2.1 (4) (fun _ => 0)), (q4, aI G.2.1 (16) (fun _ => 0))]) rfl ?_
  refine e_putF C hn 0 (k := 3) in_Asks tk_Asks nm_Asks g218 d_Asks_init_32 rfl rfl rfl rfl rfl rfl rfl rfl rfl ?_
  refine e_eq (ws' := [(b, ob 3 [.ref q1, .ref q2, .ref q3, .ref q4, .null, .int 0, .int 0, .int 0]), (q1, aI G.2.1 (16) (fun _ => 0)), (q2, aI G.2.1 (16) (fun _ => 0)), (q3, aI G.2.1 (4) (fun _ => 0)), (q4, aI G.2.1 (16) (fun _ => 0))]) rfl ?_
  refine e_aload_n C d_Asks_init_35 rfl ?_
  refine e_bipush C d_Asks_init_36 (v := nI 16) (by decide) ?_
  refine e_newa C 0 g73 rfl rfl (fun _ h => h) rfl (by decide) (16) d_Asks_init_38 rfl (by omega) (by rw [hR]; show _ ≤ 5; omega) (by rw [hR]; show _ ≤ 68; omega) (fun q5 => ?_)
  refine e_eq (ws' := [(b, ob 3 [.ref q1, .ref q2, .ref q3, .ref q4, .null, .int 0, .int 0, .int 0]), (q1, aI G.2.1 (16) (fun _ => 0)), (q2, aI G.2.1 (16) (fun _ => 0)), (q3, aI G.2.1 (4) (fun _ => 0)), (q4, aI G.2.1 (16) (fun _ => 0)), (q5, aI G.2.1 (16) (fun _ => 0))]) rfl ?_
  refine e_putF C hn 0 (k := 4) in_Asks tk_Asks nm_Asks g220 d_Asks_init_40 rfl rfl rfl rfl rfl rfl rfl rfl rfl ?_
  refine e_eq (ws' := [(b, ob 3 [.ref q1, .ref q2, .ref q3, .ref q4, .ref q5, .int 0, .int 0, .int 0]), (q1, aI G.2.1 (16) (fun _ => 0)), (q2, aI G.2.1 (16) (fun _ => 0)), (q3, aI G.2.1 (4) (fun _ => 0)), (q4, aI G.2.1 (16) (fun _ => 0)), (q5, aI G.2.1 (16) (fun _ => 0))]) rfl ?_
  exact e_vret C E d_Asks_init_43 (by show _ ≤ 5; omega) (by show _ ≤ 68; omega) ⟨rfl, q1, q2, q3, q4, q5, rfl⟩
theorem ey_Hist_init : eY y_Hist_init 0 = true := by decide +kernel
theorem d_Hist_init_0 : decode c_Hist_init 0 = .ok (.aload_n 0, 1) := by decide +kernel
theorem d_Hist_init_1 : decode c_Hist_init 1 = .ok (.invokespecial 3, 3) := by decide +kernel
theorem d_Hist_init_4 : decode c_Hist_init 4 = .ok (.aload_n 0, 1) := by decide +kernel
theorem d_Hist_init_5 : decode c_Hist_init 5 = .ok (.bipush 64, 2) := by decide +kernel
theorem d_Hist_init_7 : decode c_Hist_init 7 = .ok (.newarray .int, 2) := by decide +kernel
theorem d_Hist_init_9 : decode c_Hist_init 9 = .ok (.putfield 11, 3) := by decide +kernel
theorem d_Hist_init_12 : decode c_Hist_init 12 = .ok (.aload_n 0, 1) := by decide +kernel
theorem d_Hist_init_13 : decode c_Hist_init 13 = .ok (.bipush 64, 2) := by decide +kernel
theorem d_Hist_init_15 : decode c_Hist_init 15 = .ok (.newarray .int, 2) := by decide +kernel
theorem d_Hist_init_17 : decode c_Hist_init 17 = .ok (.putfield 15, 3) := by decide +kernel
theorem d_Hist_init_20 : decode c_Hist_init 20 = .ok (.return_, 1) := by decide +kernel
set_option maxRecDepth 100000 in
theorem k_Hist_init {l : Launch} {G : EG} {b : Nat} : Con l G y_Hist_init c_Hist_init 1 none (rc 1 2 128 20) [.ref b] [(b, ob 4 [.null, .null, .int 0, .int 0])] (fun r u => r = none ∧ ∃ q1 q2 : Nat, u = [(b, ob 4 [.ref q1, .ref q2, .int 0, .int 0]), (q1, aI G.2.1 (64) (fun _ => 0)), (q2, aI G.2.1 (64) (fun _ => 0))]) := by
  refine Con.of rfl rfl (fun X C E hR hl hn => ?_)
  refine e_aload_n C d_Hist_init_0 rfl ?_
  refine e_obj C hR g250 d_Hist_init_1 rfl ?_
  refine e_aload_n C d_Hist_init_4 rfl ?_
  refine e_bipush C d_Hist_init_5 (v := nI 64) (by decide) ?_
  refine e_newa C 0 g73 rfl rfl (fun _ h => h) rfl (by decide) (64) d_Hist_init_7 rfl (by omega) (by rw [hR]; show _ ≤ 2; omega) (by rw [hR]; show _ ≤ 128; omega) (fun q1 => ?_)
  refine e_eq (ws' := [(b, ob 4 [.null, .null, .int 0, .int 0]), (q1, aI G.2.1 (64) (fun _ => 0))]) rfl ?_
  refine e_putF C hn 0 (k := 0) in_Hist tk_Hist nm_Hist g251 d_Hist_init_9 rfl rfl rfl rfl rfl rfl rfl rfl rfl ?_
  refine e_eq (ws' := [(b, ob 4 [.ref q1, .null, .int 0, .int 0]), (q1, aI G.2.1 (64) (fun _ => 0))]) rfl ?_
  refine e_aload_n C d_Hist_init_12 rfl ?_
  refine e_bipush C d_Hist_init_13 (v := nI 64) (by decide) ?_
  refine e_newa C 0 g73 rfl rfl (fun _ h => h) rfl (by decide) (64) d_Hist_init_15 rfl (by omega) (by rw [hR]; show _ ≤ 2; omega) (by rw [hR]; show _ ≤ 128; omega) (fun q2 => ?_)
  refine e_eq (ws' := [(b, ob 4 [.ref q1, .null, .int 0, .int 0]), (q1, aI G.2.1 (64) (fun _ => 0)), (q2, aI G.2.1 (64) (fun _ => 0))]) rfl ?_
  refine e_putF C hn 0 (k := 1) in_Hist tk_Hist nm_Hist g252 d_Hist_init_17 rfl rfl rfl rfl rfl rfl rfl rfl rfl ?_
  refine e_eq (ws' := [(b, ob 4 [.ref q1, .ref q2, .int 0, .int 0]), (q1, aI G.2.1 (64) (fun _ => 0)), (q2, aI G.2.1 (64) (fun _ => 0))]) rfl ?_
  exact e_vret C E d_Hist_init_20 (by show _ ≤ 2; omega) (by show _ ≤ 128; omega) ⟨rfl, q1, q2, rfl⟩
theorem ey_Rule_init : eY y_Rule_init 1 = true := by decide +kernel
theorem d_Rule_init_0 : decode c_Rule_init 0 = .ok (.aload_n 0, 1) := by decide +kernel
theorem d_Rule_init_1 : decode c_Rule_init 1 = .ok (.invokespecial 3, 3) := by decide +kernel
theorem d_Rule_init_4 : decode c_Rule_init 4 = .ok (.aload_n 0, 1) := by decide +kernel
theorem d_Rule_init_5 : decode c_Rule_init 5 = .ok (.iload_n 1, 1) := by decide +kernel
theorem d_Rule_init_6 : decode c_Rule_init 6 = .ok (.putfield 9, 3) := by decide +kernel
theorem d_Rule_init_9 : decode c_Rule_init 9 = .ok (.return_, 1) := by decide +kernel
set_option maxRecDepth 100000 in
theorem k_Rule_init_Time {l : Launch} {G : EG} {b : Nat} {x : Int32} : Con l G y_Rule_init c_Rule_init 2 none (rc 1 0 0 20) [.ref b, .int x] [(b, ob 5 [.int 0, .int 0, .null, .null, .null, .int 0, .int 0])] (fun r u => r = none ∧ u = [(b, ob 5 [.int x, .int 0, .null, .null, .null, .int 0, .int 0])]) := by
  refine Con.of rfl rfl (fun X C E hR hl hn => ?_)
  refine e_aload_n C d_Rule_init_0 rfl ?_
  refine e_obj C hR g113 d_Rule_init_1 rfl ?_
  refine e_aload_n C d_Rule_init_4 rfl ?_
  refine e_iload_n C d_Rule_init_5 rfl ?_
  refine e_putF C hn 0 (k := 0) in_Time tk_Time nm_Time g115 d_Rule_init_6 rfl rfl rfl rfl rfl rfl rfl rfl rfl ?_
  refine e_eq (ws' := [(b, ob 5 [.int x, .int 0, .null, .null, .null, .int 0, .int 0])]) rfl ?_
  exact e_vret C E d_Rule_init_9 (by show _ ≤ 0; omega) (by show _ ≤ 0; omega) ⟨rfl, rfl⟩
set_option maxRecDepth 100000 in
theorem k_Rule_init_Chance {l : Launch} {G : EG} {b : Nat} {x : Int32} : Con l G y_Rule_init c_Rule_init 2 none (rc 1 0 0 20) [.ref b, .int x] [(b, ob 6 [.int 0, .int 0])] (fun r u => r = none ∧ u = [(b, ob 6 [.int x, .int 0])]) := by
  refine Con.of rfl rfl (fun X C E hR hl hn => ?_)
  refine e_aload_n C d_Rule_init_0 rfl ?_
  refine e_obj C hR g113 d_Rule_init_1 rfl ?_
  refine e_aload_n C d_Rule_init_4 rfl ?_
  refine e_iload_n C d_Rule_init_5 rfl ?_
  refine e_putF C hn 0 (k := 0) in_Chance tk_Chance nm_Chance g115 d_Rule_init_6 rfl rfl rfl rfl rfl rfl rfl rfl rfl ?_
  refine e_eq (ws' := [(b, ob 6 [.int x, .int 0])]) rfl ?_
  exact e_vret C E d_Rule_init_9 (by show _ ≤ 0; omega) (by show _ ≤ 0; omega) ⟨rfl, rfl⟩
set_option maxRecDepth 100000 in
theorem k_Rule_init_Round {l : Launch} {G : EG} {b : Nat} {x : Int32} : Con l G y_Rule_init c_Rule_init 2 none (rc 1 0 0 20) [.ref b, .int x] [(b, ob 7 [.int 0, .null, .null])] (fun r u => r = none ∧ u = [(b, ob 7 [.int x, .null, .null])]) := by
  refine Con.of rfl rfl (fun X C E hR hl hn => ?_)
  refine e_aload_n C d_Rule_init_0 rfl ?_
  refine e_obj C hR g113 d_Rule_init_1 rfl ?_
  refine e_aload_n C d_Rule_init_4 rfl ?_
  refine e_iload_n C d_Rule_init_5 rfl ?_
  refine e_putF C hn 0 (k := 0) in_Round tk_Round nm_Round g115 d_Rule_init_6 rfl rfl rfl rfl rfl rfl rfl rfl rfl ?_
  refine e_eq (ws' := [(b, ob 7 [.int x, .null, .null])]) rfl ?_
  exact e_vret C E d_Rule_init_9 (by show _ ≤ 0; omega) (by show _ ≤ 0; omega) ⟨rfl, rfl⟩
set_option maxRecDepth 100000 in
theorem k_Rule_init_Tree {l : Launch} {G : EG} {b : Nat} {x : Int32} : Con l G y_Rule_init c_Rule_init 2 none (rc 1 0 0 20) [.ref b, .int x] [(b, ob 8 [.int 0, .int 0, .null])] (fun r u => r = none ∧ u = [(b, ob 8 [.int x, .int 0, .null])]) := by
  refine Con.of rfl rfl (fun X C E hR hl hn => ?_)
  refine e_aload_n C d_Rule_init_0 rfl ?_
  refine e_obj C hR g113 d_Rule_init_1 rfl ?_
  refine e_aload_n C d_Rule_init_4 rfl ?_
  refine e_iload_n C d_Rule_init_5 rfl ?_
  refine e_putF C hn 0 (k := 0) in_Tree tk_Tree nm_Tree g115 d_Rule_init_6 rfl rfl rfl rfl rfl rfl rfl rfl rfl ?_
  refine e_eq (ws' := [(b, ob 8 [.int x, .int 0, .null])]) rfl ?_
  exact e_vret C E d_Rule_init_9 (by show _ ≤ 0; omega) (by show _ ≤ 0; omega) ⟨rfl, rfl⟩
set_option maxRecDepth 100000 in
theorem k_Rule_init_Lately {l : Launch} {G : EG} {b : Nat} {x : Int32} : Con l G y_Rule_init c_Rule_init 2 none (rc 1 0 0 20) [.ref b, .int x] [(b, ob 9 [.int 0, .null])] (fun r u => r = none ∧ u = [(b, ob 9 [.int x, .null])]) := by
  refine Con.of rfl rfl (fun X C E hR hl hn => ?_)
  refine e_aload_n C d_Rule_init_0 rfl ?_
  refine e_obj C hR g113 d_Rule_init_1 rfl ?_
  refine e_aload_n C d_Rule_init_4 rfl ?_
  refine e_iload_n C d_Rule_init_5 rfl ?_
  refine e_putF C hn 0 (k := 0) in_Lately tk_Lately nm_Lately g115 d_Rule_init_6 rfl rfl rfl rfl rfl rfl rfl rfl rfl ?_
  refine e_eq (ws' := [(b, ob 9 [.int x, .null])]) rfl ?_
  exact e_vret C E d_Rule_init_9 (by show _ ≤ 0; omega) (by show _ ≤ 0; omega) ⟨rfl, rfl⟩
set_option maxRecDepth 100000 in
theorem k_Rule_init_Age {l : Launch} {G : EG} {b : Nat} {x : Int32} : Con l G y_Rule_init c_Rule_init 2 none (rc 1 0 0 20) [.ref b, .int x] [(b, ob 10 [.int 0, .null])] (fun r u => r = none ∧ u = [(b, ob 10 [.int x, .null])]) := by
  refine Con.of rfl rfl (fun X C E hR hl hn => ?_)
  refine e_aload_n C d_Rule_init_0 rfl ?_
  refine e_obj C hR g113 d_Rule_init_1 rfl ?_
  refine e_aload_n C d_Rule_init_4 rfl ?_
  refine e_iload_n C d_Rule_init_5 rfl ?_
  refine e_putF C hn 0 (k := 0) in_Age tk_Age nm_Age g115 d_Rule_init_6 rfl rfl rfl rfl rfl rfl rfl rfl rfl ?_
  refine e_eq (ws' := [(b, ob 10 [.int x, .null])]) rfl ?_
  exact e_vret C E d_Rule_init_9 (by show _ ≤ 0; omega) (by show _ ≤ 0; omega) ⟨rfl, rfl⟩
theorem ey_Time_init : eY y_Time_init 3 = true := by decide +kernel
theorem d_Time_init_0 : decode c_Time_init 0 = .ok (.aload_n 0, 1) := by decide +kernel
theorem d_Time_init_1 : decode c_Time_init 1 = .ok (.iload_n 3, 1) := by decide +kernel
theorem d_Time_init_2 : decode c_Time_init 2 = .ok (.invokespecial 3, 3) := by decide +kernel
theorem d_Time_init_5 : decode c_Time_init 5 = .ok (.aload_n 0, 1) := by decide +kernel
theorem d_Time_init_6 : decode c_Time_init 6 = .ok (.iload_n 1, 1) := by decide +kernel
theorem d_Time_init_7 : decode c_Time_init 7 = .ok (.putfield 9, 3) := by decide +kernel
theorem d_Time_init_10 : decode c_Time_init 10 = .ok (.aload_n 0, 1) := by decide +kernel
theorem d_Time_init_11 : decode c_Time_init 11 = .ok (.iload_n 2, 1) := by decide +kernel
theorem d_Time_init_12 : decode c_Time_init 12 = .ok (.iload_n 3, 1) := by decide +kernel
theorem d_Time_init_13 : decode c_Time_init 13 = .ok (.imul, 1) := by decide +kernel
theorem d_Time_init_14 : decode c_Time_init 14 = .ok (.newarray .int, 2) := by decide +kernel
theorem d_Time_init_16 : decode c_Time_init 16 = .ok (.putfield 15, 3) := by decide +kernel
theorem d_Time_init_19 : decode c_Time_init 19 = .ok (.aload_n 0, 1) := by decide +kernel
theorem d_Time_init_20 : decode c_Time_init 20 = .ok (.iload_n 2, 1) := by decide +kernel
theorem d_Time_init_21 : decode c_Time_init 21 = .ok (.iload_n 3, 1) := by decide +kernel
theorem d_Time_init_22 : decode c_Time_init 22 = .ok (.imul, 1) := by decide +kernel
theorem d_Time_init_23 : decode c_Time_init 23 = .ok (.newarray .int, 2) := by decide +kernel
theorem d_Time_init_25 : decode c_Time_init 25 = .ok (.putfield 19, 3) := by decide +kernel
theorem d_Time_init_28 : decode c_Time_init 28 = .ok (.aload_n 0, 1) := by decide +kernel
theorem d_Time_init_29 : decode c_Time_init 29 = .ok (.iload_n 2, 1) := by decide +kernel
theorem d_Time_init_30 : decode c_Time_init 30 = .ok (.iload_n 3, 1) := by decide +kernel
theorem d_Time_init_31 : decode c_Time_init 31 = .ok (.imul, 1) := by decide +kernel
theorem d_Time_init_32 : decode c_Time_init 32 = .ok (.newarray .int, 2) := by decide +kernel
theorem d_Time_init_34 : decode c_Time_init 34 = .ok (.putfield 22, 3) := by decide +kernel
theorem d_Time_init_37 : decode c_Time_init 37 = .ok (.return_, 1) := by decide +kernel
set_option maxRecDepth 100000 in
theorem k_Time_init {l : Launch} {G : EG} {b : Nat} {S wd : Nat} {x : Int32} (h : S * wd ≤ 128) : Con l G y_Time_init c_Time_init 4 none (rc 2 3 384 41) [.ref b, .int x, .int (nI S), .int (nI wd)] [(b, ob 5 [.int 0, .int 0, .null, .null, .null, .int 0, .int 0])] (fun r u => r = none ∧ ∃ q1 q2 q3 : Nat, u = [(b, ob 5 [.int (nI wd), .int x, .ref q1, .ref q2, .ref q3, .int 0, .int 0]), (q1, aI G.2.1 ((S * wd)) (fun _ => 0)), (q2, aI G.2.1 ((S * wd)) (fun _ => 0)), (q3, aI G.2.1 ((S * wd)) (fun _ => 0))]) := by
  refine Con.of rfl rfl (fun X C E hR hl hn => ?_)
  refine e_aload_n C d_Time_init_0 rfl ?_
  refine e_iload_n C d_Time_init_1 rfl ?_
  refine e_cI C hR k_Rule_init_Time g112 g5 g188 g111 d_Time_init_2 rfl rfl ey_Rule_init rfl rfl rfl (by show _ ≤ 3; omega) (by show _ ≤ 384; omega) (fun r u hB => ?_)
  obtain ⟨rfl, rfl⟩ := hB
  refine e_st (st' := []) rfl ?_
  refine e_eq (ws' := [(b, ob 5 [.int (nI wd), .int 0, .null, .null, .null, .int 0, .int 0])]) rfl ?_
  refine e_aload_n C d_Time_init_5 rfl ?_
  refine e_iload_n C d_Time_init_6 rfl ?_
  refine e_putF C hn 0 (k := 1) in_Time tk_Time nm_Time g189 d_Time_init_7 rfl rfl rfl rfl rfl rfl rfl rfl rfl ?_
  refine e_eq (ws' := [(b, ob 5 [.int (nI wd), .int x, .null, .null, .null, .int 0, .int 0])]) rfl ?_
  refine e_aload_n C d_Time_init_10 rfl ?_
  refine e_iload_n C d_Time_init_11 rfl ?_
  refine e_iload_n C d_Time_init_12 rfl ?_
  refine e_imul C d_Time_init_13 ?_
  refine e_top (y := nI (S * wd)) (i_mul S wd) ?_
  refine e_newa C 0 g73 rfl rfl (fun _ h => h) rfl (by decide) ((S * wd)) d_Time_init_14 rfl (by omega) (by rw [hR]; show _ ≤ 3; omega) (by rw [hR]; show _ ≤ 384; omega) (fun q1 => ?_)
  refine e_eq (ws' := [(b, ob 5 [.int (nI wd), .int x, .null, .null, .null, .int 0, .int 0]), (q1, aI G.2.1 ((S * wd)) (fun _ => 0))]) rfl ?_
  refine e_putF C hn 0 (k := 2) in_Time tk_Time nm_Time g190 d_Time_init_16 rfl rfl rfl rfl rfl rfl rfl rfl rfl ?_
  refine e_eq (ws' := [(b, ob 5 [.int (nI wd), .int x, .ref q1, .null, .null, .int 0, .int 0]), (q1, aI G.2.1 ((S * wd)) (fun _ => 0))]) rfl ?_
  refine e_aload_n C d_Time_init_19 rfl ?_
  refine e_iload_n C d_Time_init_20 rfl ?_
  refine e_iload_n C d_Time_init_21 rfl ?_
  refine e_imul C d_Time_init_22 ?_
  refine e_top (y := nI (S * wd)) (i_mul S wd) ?_
  refine e_newa C 0 g73 rfl rfl (fun _ h => h) rfl (by decide) ((S * wd)) d_Time_init_23 rfl (by omega) (by rw [hR]; show _ ≤ 3; omega) (by rw [hR]; show _ ≤ 384; omega) (fun q2 => ?_)
  refine e_eq (ws' := [(b, ob 5 [.int (nI wd), .int x, .ref q1, .null, .null, .int 0, .int 0]), (q1, aI G.2.1 ((S * wd)) (fun _ => 0)), (q2, aI G.2.1 ((S * wd)) (fun _ => 0))]) rfl ?_
  refine e_putF C hn 0 (k := 3) in_Time tk_Time nm_Time g191 d_Time_init_25 rfl rfl rfl rfl rfl rfl rfl rfl rfl ?_
  refine e_eq (ws' := [(b, ob 5 [.int (nI wd), .int x, .ref q1, .ref q2, .null, .int 0, .int 0]), (q1, aI G.2.1 ((S * wd)) (fun _ => 0)), (q2, aI G.2.1 ((S * wd)) (fun _ => 0))]) rfl ?_
  refine e_aload_n C d_Time_init_28 rfl ?_
  refine e_iload_n C d_Time_init_29 rfl ?_
  refine e_iload_n C d_Time_init_30 rfl ?_
  refine e_imul C d_Time_init_31 ?_
  refine e_top (y := nI (S * wd)) (i_mul S wd) ?_
  refine e_newa C 0 g73 rfl rfl (fun _ h => h) rfl (by decide) ((S * wd)) d_Time_init_32 rfl (by omega) (by rw [hR]; show _ ≤ 3; omega) (by rw [hR]; show _ ≤ 384; omega) (fun q3 => ?_)
  refine e_eq (ws' := [(b, ob 5 [.int (nI wd), .int x, .ref q1, .ref q2, .null, .int 0, .int 0]), (q1, aI G.2.1 ((S * wd)) (fun _ => 0)), (q2, aI G.2.1 ((S * wd)) (fun _ => 0)), (q3, aI G.2.1 ((S * wd)) (fun _ => 0))]) rfl ?_
  refine e_putF C hn 0 (k := 4) in_Time tk_Time nm_Time g192 d_Time_init_34 rfl rfl rfl rfl rfl rfl rfl rfl rfl ?_
  refine e_eq (ws' := [(b, ob 5 [.int (nI wd), .int x, .ref q1, .ref q2, .ref q3, .int 0, .int 0]), (q1, aI G.2.1 ((S * wd)) (fun _ => 0)), (q2, aI G.2.1 ((S * wd)) (fun _ => 0)), (q3, aI G.2.1 ((S * wd)) (fun _ => 0))]) rfl ?_
  exact e_vret C E d_Time_init_37 (by show _ ≤ 3; omega) (by show _ ≤ 384; omega) ⟨rfl, q1, q2, q3, rfl⟩
theorem ey_Chance_init : eY y_Chance_init 1 = true := by decide +kernel
theorem d_Chance_init_0 : decode c_Chance_init 0 = .ok (.aload_n 0, 1) := by decide +kernel
theorem d_Chance_init_1 : decode c_Chance_init 1 = .ok (.iload_n 1, 1) := by decide +kernel
theorem d_Chance_init_2 : decode c_Chance_init 2 = .ok (.invokespecial 3, 3) := by decide +kernel
theorem d_Chance_init_5 : decode c_Chance_init 5 = .ok (.aload_n 0, 1) := by decide +kernel
theorem d_Chance_init_6 : decode c_Chance_init 6 = .ok (.iconst 1, 1) := by decide +kernel
theorem d_Chance_init_7 : decode c_Chance_init 7 = .ok (.putfield 9, 3) := by decide +kernel
theorem d_Chance_init_10 : decode c_Chance_init 10 = .ok (.return_, 1) := by decide +kernel
set_option maxRecDepth 100000 in
theorem k_Chance_init {l : Launch} {G : EG} {b : Nat} {wd : Nat} : Con l G y_Chance_init c_Chance_init 2 none (rc 2 0 0 41) [.ref b, .int (nI wd)] [(b, ob 6 [.int 0, .int 0])] (fun r u => r = none ∧ u = [(b, ob 6 [.int (nI wd), .int (1)])]) := by
  refine Con.of rfl rfl (fun X C E hR hl hn => ?_)
  refine e_aload_n C d_Chance_init_0 rfl ?_
  refine e_iload_n C d_Chance_init_1 rfl ?_
  refine e_cI C hR k_Rule_init_Chance g112 g5 g110 g111 d_Chance_init_2 rfl rfl ey_Rule_init rfl rfl rfl (by show _ ≤ 0; omega) (by show _ ≤ 0; omega) (fun r u hB => ?_)
  obtain ⟨rfl, rfl⟩ := hB
  refine e_st (st' := []) rfl ?_
  refine e_eq (ws' := [(b, ob 6 [.int (nI wd), .int 0])]) rfl ?_
  refine e_aload_n C d_Chance_init_5 rfl ?_
  refine e_iconst C d_Chance_init_6 (v := 1) (by decide) ?_
  refine e_put C 0 (k := 1) in_Chance tk_Chance nm_Chance g114 d_Chance_init_7 rfl rfl rfl rfl rfl rfl rfl rfl ?_
  refine e_eq (ws' := [(b, ob 6 [.int (nI wd), .int (1)])]) rfl ?_
  exact e_vret C E d_Chance_init_10 (by show _ ≤ 0; omega) (by show _ ≤ 0; omega) ⟨rfl, rfl⟩
theorem ey_Round_init : eY y_Round_init 2 = true := by decide +kernel
theorem d_Round_init_0 : decode c_Round_init 0 = .ok (.aload_n 0, 1) := by decide +kernel
theorem d_Round_init_1 : decode c_Round_init 1 = .ok (.iload_n 2, 1) := by decide +kernel
theorem d_Round_init_2 : decode c_Round_init 2 = .ok (.invokespecial 1, 3) := by decide +kernel
theorem d_Round_init_5 : decode c_Round_init 5 = .ok (.aload_n 0, 1) := by decide +kernel
theorem d_Round_init_6 : decode c_Round_init 6 = .ok (.iload_n 1, 1) := by decide +kernel
theorem d_Round_init_7 : decode c_Round_init 7 = .ok (.iload_n 2, 1) := by decide +kernel
theorem d_Round_init_8 : decode c_Round_init 8 = .ok (.imul, 1) := by decide +kernel
theorem d_Round_init_9 : decode c_Round_init 9 = .ok (.newarray .boolean, 2) := by decide +kernel
theorem d_Round_init_11 : decode c_Round_init 11 = .ok (.putfield 7, 3) := by decide +kernel
theorem d_Round_init_14 : decode c_Round_init 14 = .ok (.aload_n 0, 1) := by decide +kernel
theorem d_Round_init_15 : decode c_Round_init 15 = .ok (.iload_n 1, 1) := by decide +kernel
theorem d_Round_init_16 : decode c_Round_init 16 = .ok (.newarray .int, 2) := by decide +kernel
theorem d_Round_init_18 : decode c_Round_init 18 = .ok (.putfield 13, 3) := by decide +kernel
theorem d_Round_init_21 : decode c_Round_init 21 = .ok (.return_, 1) := by decide +kernel
set_option maxRecDepth 100000 in
theorem k_Round_init {l : Launch} {G : EG} {b : Nat} {S wd : Nat} (h : S * wd ≤ 128) (h2 : S ≤ 16) : Con l G y_Round_init c_Round_init 3 none (rc 2 2 144 41) [.ref b, .int (nI S), .int (nI wd)] [(b, ob 7 [.int 0, .null, .null])] (fun r u => r = none ∧ ∃ q1 q2 : Nat, u = [(b, ob 7 [.int (nI wd), .ref q1, .ref q2]), (q1, aI G.2.2.1 ((S * wd)) (fun _ => 0)), (q2, aI G.2.1 (S) (fun _ => 0))]) := by
  refine Con.of rfl rfl (fun X C E hR hl hn => ?_)
  refine e_aload_n C d_Round_init_0 rfl ?_
  refine e_iload_n C d_Round_init_1 rfl ?_
  refine e_cI C hR k_Rule_init_Round g112 g5 g138 g111 d_Round_init_2 rfl rfl ey_Rule_init rfl rfl rfl (by show _ ≤ 2; omega) (by show _ ≤ 144; omega) (fun r u hB => ?_)
  obtain ⟨rfl, rfl⟩ := hB
  refine e_st (st' := []) rfl ?_
  refine e_eq (ws' := [(b, ob 7 [.int (nI wd), .null, .null])]) rfl ?_
  refine e_aload_n C d_Round_init_5 rfl ?_
  refine e_iload_n C d_Round_init_6 rfl ?_
  refine e_iload_n C d_Round_init_7 rfl ?_
  refine e_imul C d_Round_init_8 ?_
  refine e_top (y := nI (S * wd)) (i_mul S wd) ?_
  refine e_newa C 1 g74 rfl rfl (fun _ h => h) rfl (by decide) ((S * wd)) d_Round_init_9 rfl (by omega) (by rw [hR]; show _ ≤ 2; omega) (by rw [hR]; show _ ≤ 144; omega) (fun q1 => ?_)
  refine e_eq (ws' := [(b, ob 7 [.int (nI wd), .null, .null]), (q1, aI G.2.2.1 ((S * wd)) (fun _ => 0))]) rfl ?_
  refine e_putF C hn 0 (k := 1) in_Round tk_Round nm_Round g139 d_Round_init_11 rfl rfl rfl rfl rfl rfl rfl rfl rfl ?_
  refine e_eq (ws' := [(b, ob 7 [.int (nI wd), .ref q1, .null]), (q1, aI G.2.2.1 ((S * wd)) (fun _ => 0))]) rfl ?_
  refine e_aload_n C d_Round_init_14 rfl ?_
  refine e_iload_n C d_Round_init_15 rfl ?_
  refine e_newa C 0 g73 rfl rfl (fun _ h => h) rfl (by decide) (S) d_Round_init_16 rfl (by omega) (by rw [hR]; show _ ≤ 2; omega) (by rw [hR]; show _ ≤ 144; omega) (fun q2 => ?_)
  refine e_eq (ws' := [(b, ob 7 [.int (nI wd), .ref q1, .null]), (q1, aI G.2.2.1 ((S * wd)) (fun _ => 0)), (q2, aI G.2.1 (S) (fun _ => 0))]) rfl ?_
  refine e_putF C hn 0 (k := 2) in_Round tk_Round nm_Round g140 d_Round_init_18 rfl rfl rfl rfl rfl rfl rfl rfl rfl ?_
  refine e_eq (ws' := [(b, ob 7 [.int (nI wd), .ref q1, .ref q2]), (q1, aI G.2.2.1 ((S * wd)) (fun _ => 0)), (q2, aI G.2.1 (S) (fun _ => 0))]) rfl ?_
  exact e_vret C E d_Round_init_21 (by show _ ≤ 2; omega) (by show _ ≤ 144; omega) ⟨rfl, q1, q2, rfl⟩
theorem ey_Lately_init : eY y_Lately_init 2 = true := by decide +kernel
theorem d_Lately_init_0 : decode c_Lately_init 0 = .ok (.aload_n 0, 1) := by decide +kernel
theorem d_Lately_init_1 : decode c_Lately_init 1 = .ok (.iload_n 2, 1) := by decide +kernel
theorem d_Lately_init_2 : decode c_Lately_init 2 = .ok (.invokespecial 1, 3) := by decide +kernel
theorem d_Lately_init_5 : decode c_Lately_init 5 = .ok (.aload_n 0, 1) := by decide +kernel
theorem d_Lately_init_6 : decode c_Lately_init 6 = .ok (.iload_n 1, 1) := by decide +kernel
theorem d_Lately_init_7 : decode c_Lately_init 7 = .ok (.iload_n 2, 1) := by decide +kernel
theorem d_Lately_init_8 : decode c_Lately_init 8 = .ok (.imul, 1) := by decide +kernel
theorem d_Lately_init_9 : decode c_Lately_init 9 = .ok (.newarray .boolean, 2) := by decide +kernel
theorem d_Lately_init_11 : decode c_Lately_init 11 = .ok (.putfield 7, 3) := by decide +kernel
theorem d_Lately_init_14 : decode c_Lately_init 14 = .ok (.return_, 1) := by decide +kernel
set_option maxRecDepth 100000 in
theorem k_Lately_init {l : Launch} {G : EG} {b : Nat} {S wd : Nat} (h : S * wd ≤ 128) : Con l G y_Lately_init c_Lately_init 3 none (rc 2 1 128 41) [.ref b, .int (nI S), .int (nI wd)] [(b, ob 9 [.int 0, .null])] (fun r u => r = none ∧ ∃ q1 : Nat, u = [(b, ob 9 [.int (nI wd), .ref q1]), (q1, aI G.2.2.1 ((S * wd)) (fun _ => 0))]) := by
  refine Con.of rfl rfl (fun X C E hR hl hn => ?_)
  refine e_aload_n C d_Lately_init_0 rfl ?_
  refine e_iload_n C d_Lately_init_1 rfl ?_
  refine e_cI C hR k_Rule_init_Lately g112 g5 g166 g111 d_Lately_init_2 rfl rfl ey_Rule_init rfl rfl rfl (by show _ ≤ 1; omega) (by show _ ≤ 128; omega) (fun r u hB => ?_)
  obtain ⟨rfl, rfl⟩ := hB
  refine e_st (st' := []) rfl ?_
  refine e_eq (ws' := [(b, ob 9 [.int (nI wd), .null])]) rfl ?_
  refine e_aload_n C d_Lately_init_5 rfl ?_
  refine e_iload_n C d_Lately_init_6 rfl ?_
  refine e_iload_n C d_Lately_init_7 rfl ?_
  refine e_imul C d_Lately_init_8 ?_
  refine e_top (y := nI (S * wd)) (i_mul S wd) ?_
  refine e_newa C 1 g74 rfl rfl (fun _ h => h) rfl (by decide) ((S * wd)) d_Lately_init_9 rfl (by omega) (by rw [hR]; show _ ≤ 1; omega) (by rw [hR]; show _ ≤ 128; omega) (fun q1 => ?_)
  refine e_eq (ws' := [(b, ob 9 [.int (nI wd), .null]), (q1, aI G.2.2.1 ((S * wd)) (fun _ => 0))]) rfl ?_
  refine e_putF C hn 0 (k := 1) in_Lately tk_Lately nm_Lately g167 d_Lately_init_11 rfl rfl rfl rfl rfl rfl rfl rfl rfl ?_
  refine e_eq (ws' := [(b, ob 9 [.int (nI wd), .ref q1]), (q1, aI G.2.2.1 ((S * wd)) (fun _ => 0))]) rfl ?_
  exact e_vret C E d_Lately_init_14 (by show _ ≤ 1; omega) (by show _ ≤ 128; omega) ⟨rfl, q1, rfl⟩
theorem ey_Age_init : eY y_Age_init 2 = true := by decide +kernel
theorem d_Age_init_0 : decode c_Age_init 0 = .ok (.aload_n 0, 1) := by decide +kernel
theorem d_Age_init_1 : decode c_Age_init 1 = .ok (.iload_n 2, 1) := by decide +kernel
theorem d_Age_init_2 : decode c_Age_init 2 = .ok (.invokespecial 3, 3) := by decide +kernel
theorem d_Age_init_5 : decode c_Age_init 5 = .ok (.aload_n 0, 1) := by decide +kernel
theorem d_Age_init_6 : decode c_Age_init 6 = .ok (.iload_n 1, 1) := by decide +kernel
theorem d_Age_init_7 : decode c_Age_init 7 = .ok (.iload_n 2, 1) := by decide +kernel
theorem d_Age_init_8 : decode c_Age_init 8 = .ok (.imul, 1) := by decide +kernel
theorem d_Age_init_9 : decode c_Age_init 9 = .ok (.newarray .int, 2) := by decide +kernel
theorem d_Age_init_11 : decode c_Age_init 11 = .ok (.putfield 9, 3) := by decide +kernel
theorem d_Age_init_14 : decode c_Age_init 14 = .ok (.return_, 1) := by decide +kernel
set_option maxRecDepth 100000 in
theorem k_Age_init {l : Launch} {G : EG} {b : Nat} {S wd : Nat} (h : S * wd ≤ 128) : Con l G y_Age_init c_Age_init 3 none (rc 2 1 128 41) [.ref b, .int (nI S), .int (nI wd)] [(b, ob 10 [.int 0, .null])] (fun r u => r = none ∧ ∃ q1 : Nat, u = [(b, ob 10 [.int (nI wd), .ref q1]), (q1, aI G.2.1 ((S * wd)) (fun _ => 0))]) := by
  refine Con.of rfl rfl (fun X C E hR hl hn => ?_)
  refine e_aload_n C d_Age_init_0 rfl ?_
  refine e_iload_n C d_Age_init_1 rfl ?_
  refine e_cI C hR k_Rule_init_Age g112 g5 g177 g111 d_Age_init_2 rfl rfl ey_Rule_init rfl rfl rfl (by show _ ≤ 1; omega) (by show _ ≤ 128; omega) (fun r u hB => ?_)
  obtain ⟨rfl, rfl⟩ := hB
  refine e_st (st' := []) rfl ?_
  refine e_eq (ws' := [(b, ob 10 [.int (nI wd), .null])]) rfl ?_
  refine e_aload_n C d_Age_init_5 rfl ?_
  refine e_iload_n C d_Age_init_6 rfl ?_
  refine e_iload_n C d_Age_init_7 rfl ?_
  refine e_imul C d_Age_init_8 ?_
  refine e_top (y := nI (S * wd)) (i_mul S wd) ?_
  refine e_newa C 0 g73 rfl rfl (fun _ h => h) rfl (by decide) ((S * wd)) d_Age_init_9 rfl (by omega) (by rw [hR]; show _ ≤ 1; omega) (by rw [hR]; show _ ≤ 128; omega) (fun q1 => ?_)
  refine e_eq (ws' := [(b, ob 10 [.int (nI wd), .null]), (q1, aI G.2.1 ((S * wd)) (fun _ => 0))]) rfl ?_
  refine e_putF C hn 0 (k := 1) in_Age tk_Age nm_Age g178 d_Age_init_11 rfl rfl rfl rfl rfl rfl rfl rfl rfl ?_
  refine e_eq (ws' := [(b, ob 10 [.int (nI wd), .ref q1]), (q1, aI G.2.1 ((S * wd)) (fun _ => 0))]) rfl ?_
  exact e_vret C E d_Age_init_14 (by show _ ≤ 1; omega) (by show _ ≤ 128; omega) ⟨rfl, q1, rfl⟩
theorem i_gt {a k : Nat} (h : a ≤ 8) (hk : k ≤ 8) (e : nI k < nI a) : k < a := by have := Int32.lt_iff_toInt_lt.mp e; rw [nI_toInt (by omega), nI_toInt (by omega)] at this; omega
theorem i_le {a k : Nat} (h : a ≤ 8) (hk : k ≤ 8) (e : ¬ nI k < nI a) : a ≤ k := Nat.le_of_not_lt fun q => e (Int32.lt_iff_toInt_lt.mpr (by rw [nI_toInt (by omega), nI_toInt (by omega)]; omega))
theorem ey_Tree_init : eY y_Tree_init 2 = true := by decide +kernel
theorem d_Tree_init_0 : decode c_Tree_init 0 = .ok (.aload_n 0, 1) := by decide +kernel
theorem d_Tree_init_1 : decode c_Tree_init 1 = .ok (.iload_n 2, 1) := by decide +kernel
theorem d_Tree_init_2 : decode c_Tree_init 2 = .ok (.invokespecial 3, 3) := by decide +kernel
theorem d_Tree_init_5 : decode c_Tree_init 5 = .ok (.aload_n 0, 1) := by decide +kernel
theorem d_Tree_init_6 : decode c_Tree_init 6 = .ok (.iload_n 2, 1) := by decide +kernel
theorem d_Tree_init_7 : decode c_Tree_init 7 = .ok (.iconst 1, 1) := by decide +kernel
theorem d_Tree_init_8 : decode c_Tree_init 8 = .ok (.if_icmp .gt 7, 3) := by decide +kernel
theorem d_Tree_init_11 : decode c_Tree_init 11 = .ok (.iconst 1, 1) := by decide +kernel
theorem d_Tree_init_12 : decode c_Tree_init 12 = .ok (.goto 23, 3) := by decide +kernel
theorem d_Tree_init_15 : decode c_Tree_init 15 = .ok (.iload_n 2, 1) := by decide +kernel
theorem d_Tree_init_16 : decode c_Tree_init 16 = .ok (.iconst 2, 1) := by decide +kernel
theorem d_Tree_init_17 : decode c_Tree_init 17 = .ok (.if_icmp .gt 7, 3) := by decide +kernel
theorem d_Tree_init_20 : decode c_Tree_init 20 = .ok (.iconst 2, 1) := by decide +kernel
theorem d_Tree_init_21 : decode c_Tree_init 21 = .ok (.goto 14, 3) := by decide +kernel
theorem d_Tree_init_24 : decode c_Tree_init 24 = .ok (.iload_n 2, 1) := by decide +kernel
theorem d_Tree_init_25 : decode c_Tree_init 25 = .ok (.iconst 4, 1) := by decide +kernel
theorem d_Tree_init_26 : decode c_Tree_init 26 = .ok (.if_icmp .gt 7, 3) := by decide +kernel
theorem d_Tree_init_29 : decode c_Tree_init 29 = .ok (.iconst 4, 1) := by decide +kernel
theorem d_Tree_init_30 : decode c_Tree_init 30 = .ok (.goto 5, 3) := by decide +kernel
theorem d_Tree_init_33 : decode c_Tree_init 33 = .ok (.bipush 8, 2) := by decide +kernel
theorem d_Tree_init_35 : decode c_Tree_init 35 = .ok (.putfield 9, 3) := by decide +kernel
theorem d_Tree_init_38 : decode c_Tree_init 38 = .ok (.aload_n 0, 1) := by decide +kernel
theorem d_Tree_init_39 : decode c_Tree_init 39 = .ok (.iload_n 1, 1) := by decide +kernel
theorem d_Tree_init_40 : decode c_Tree_init 40 = .ok (.newarray .int, 2) := by decide +kernel
theorem d_Tree_init_42 : decode c_Tree_init 42 = .ok (.putfield 15, 3) := by decide +kernel
theorem d_Tree_init_45 : decode c_Tree_init 45 = .ok (.return_, 1) := by decide +kernel
set_option maxRecDepth 100000 in
theorem k_Tree_init {l : Launch} {G : EG} {b : Nat} {S wd : Nat} (h2 : S ≤ 16) (hw : wd ≤ 8) : Con l G y_Tree_init c_Tree_init 3 none (rc 2 1 16 41) [.ref b, .int (nI S), .int (nI wd)] [(b, ob 8 [.int 0, .int 0, .null])] (fun r u => r = none ∧ ∃ q1 : Nat, u = [(b, ob 8 [.int (nI wd), .int (nI (lvN wd)), .ref q1]), (q1, aI G.2.1 (S) (fun _ => 0))]) := by
  refine Con.of rfl rfl (fun X C E hR hl hn => ?_)
  refine e_aload_n C d_Tree_init_0 rfl ?_
  refine e_iload_n C d_Tree_init_1 rfl ?_
  refine e_cI C hR k_Rule_init_Tree g112 g5 g152 g111 d_Tree_init_2 rfl rfl ey_Rule_init rfl rfl rfl (by show _ ≤ 1; omega) (by show _ ≤ 16; omega) (fun r u hB => ?_)
  obtain ⟨rfl, rfl⟩ := hB
  refine e_st (st' := []) rfl ?_
  refine e_eq (ws' := [(b, ob 8 [.int (nI wd), .int 0, .null])]) rfl ?_
  refine e_aload_n C d_Tree_init_5 rfl ?_
  have L : EW X G 3 (0 + 0) (0 + 0) 35 [(0, .ref b), (1, .int (nI S)), (2, .int (nI wd))] [.int (nI (lvN wd)), .ref b] [(b, ob 8 [.int (nI wd), .int 0, .null])] := by
    refine e_putF C hn 0 (k := 1) in_Tree tk_Tree nm_Tree g153 d_Tree_init_35 rfl rfl rfl rfl rfl rfl rfl rfl rfl ?_
    refine e_eq (ws' := [(b, ob 8 [.int (nI wd), .int (nI (lvN wd)), .null])]) rfl ?_
    refine e_aload_n C d_Tree_init_38 rfl ?_
    refine e_iload_n C d_Tree_init_39 rfl ?_
    refine e_newa C 0 g73 rfl rfl (fun _ h => h) rfl (by decide) (S) d_Tree_init_40 rfl (by omega) (by rw [hR]; show _ ≤ 1; omega) (by rw [hR]; show _ ≤ 16; omega) (fun q1 => ?_)
    refine e_eq (ws' := [(b, ob 8 [.int (nI wd), .int (nI (lvN wd)), .null]), (q1, aI G.2.1 (S) (fun _ => 0))]) rfl ?_
    refine e_putF C hn 0 (k := 2) in_Tree tk_Tree nm_Tree g154 d_Tree_init_42 rfl rfl rfl rfl rfl rfl rfl rfl rfl ?_
    refine e_eq (ws' := [(b, ob 8 [.int (nI wd), .int (nI (lvN wd)), .ref q1]), (q1, aI G.2.1 (S) (fun _ => 0))]) rfl ?_
    exact e_vret C E d_Tree_init_45 (by show _ ≤ 1; omega) (by show _ ≤ 16; omega) ⟨rfl, q1, rfl⟩
  refine e_iload_n C d_Tree_init_6 rfl ?_
  refine e_iconst C d_Tree_init_7 (v := 1) (by decide) ?_
  refine e_icmp_gt C d_Tree_init_8 (tgt := 15) (by decide) (fun h8 => ?_) (fun h8 => ?_)
  · skip
    refine e_iload_n C d_Tree_init_15 rfl ?_
    refine e_iconst C d_Tree_init_16 (v := 2) (by decide) ?_
    refine e_icmp_gt C d_Tree_init_17 (tgt := 24) (by decide) (fun h17 => ?_) (fun h17 => ?_)
    · skip
      refine e_iload_n C d_Tree_init_24 rfl ?_
      refine e_iconst C d_Tree_init_25 (v := 4) (by decide) ?_
      refine e_icmp_gt C d_Tree_init_26 (tgt := 33) (by decide) (fun h26 => ?_) (fun h26 => ?_)
      · skip
        refine e_bipush C d_Tree_init_33 (v := 8) (by decide) ?_
        refine e_top (y := nI (lvN wd)) (by have h26 := i_gt (k := 4) hw (by omega) h26; unfold lvN; rw [if_neg (by omega), if_neg (by omega), if_neg (by omega)]; decide) ?_
        exact L
      · skip
        refine e_iconst C d_Tree_init_29 (v := 4) (by decide) ?_
        refine e_goto C d_Tree_init_30 (tgt := 35) (by decide) ?_
        refine e_top (y := nI (lvN wd)) (by have h17 := i_gt (k := 2) hw (by omega) h17; have h26 := i_le (k := 4) hw (by omega) h26; unfold lvN; rw [if_neg (by omega), if_neg (by omega), if_pos (by omega)]; decide) ?_
        exact L
    · skip
      refine e_iconst C d_Tree_init_20 (v := 2) (by decide) ?_
      refine e_goto C d_Tree_init_21 (tgt := 35) (by decide) ?_
      refine e_top (y := nI (lvN wd)) (by have h8 := i_gt (k := 1) hw (by omega) h8; have h17 := i_le (k := 2) hw (by omega) h17; unfold lvN; rw [if_neg (by omega), if_pos (by omega)]; decide) ?_
      exact L
  · skip
    refine e_iconst C d_Tree_init_11 (v := 1) (by decide) ?_
    refine e_goto C d_Tree_init_12 (tgt := 35) (by decide) ?_
    refine e_top (y := nI (lvN wd)) (by have h8 := i_le (k := 1) hw (by omega) h8; unfold lvN; rw [if_pos (by omega)]; decide) ?_
    exact L
