/-! A CALL OF A METHOD THAT THE RECEIVER'S CLASS INHERITS -/
section CallH
variable {X : EX} {G : EG} {own : String} {cc : ByteArray} {nL cells slots pc : Nat} {lv : List (Nat × Value)} {st : List Value} {B : Option Value → va_W → Prop}
theorem e_callH (C : EC X G own cc nL) {wc wr : va_W} {Cn : String} {y : MethodName} {rm : Room} (As : List Value) {bytes : ByteArray} {maxL index b ci : Nat} (q0 : Nat) {ret : Option FieldType} {T : u_T} {N : Nat} {fs : List Value}
    (hM : Con X.l G y bytes maxL ret rm (.ref b :: As) wc B) (hc : Cond.code y bytes maxL ret ∈ GT) (hi : Cond.initialized y.cls ∈ GT) (hl : Cond.methodLink own index ⟨Cn, y.name, y.desc⟩ ∈ GT) (hsm : Cond.sameMethod Cn y.cls y.name y.desc ∈ GT) (hin : Cond.instanceMethod y ∈ GT) (hse : Cond.selects Cn ⟨Cn, y.name, y.desc⟩ y ∈ GT) (hd : decode cc pc = .ok (.invokevirtual index, 3)) (hy : eY y As.length = true) (hR : eR rm X.R maxL = true) (hk : KL[ci]? = some (Cn, T, N)) (he : wc[q0]? = some (b, ob ci fs)) (hs : Nat.ble (st.map fun v : Value => v.category).sum 8 = true) (hf : cells + rm.cells ≤ X.R.cells ∧ slots + rm.slots ≤ X.R.slots)
    (kk : ∀ (r : Option Value) (u : va_W), B r u → EW X G nL (cells + rm.cells) (slots + rm.slots) (pc + 3) lv (r.toList ++ st) (u ++ wr)) : EW X G nL cells slots pc lv (As.reverse ++ .ref b :: st) (wc ++ wr) :=
  e_run (fun H locs ls hP hD hz => va_runU (As := As) (rest := st) (C := Cn) (owner := y.cls) (x := ⟨Cn, y.name, y.desc⟩) ⟨C.1, C.2.1, C.2.2.1, C.2.2.2.1, C.2.2.2.2.1⟩ (hM H.size)
    ⟨⟨rfl, rfl, (eR.of hR).1, (eR.of hR).2, e_words C.2.2.2.2.1 hc, List.mem_cons_self⟩, C.2.2.2.2.1 _ hc, C.2.2.2.2.1 _ hi, (eY.of hy).1, (eY.of hy).2, C.2.2.2.2.1 _ hl, C.2.2.2.2.1 _ hsm, va_Decl.of (C.2.2.2.2.1 _ hin) (C.2.2.2.2.1 _ hc), C.2.2.2.2.1 _ hse, C.2.2.2.2.1 _ hin⟩
    ⟨ePre_blind, va_recv C.2.2.2.2.2.1.1 hP hk he, e_pre C hP hD⟩ rfl rfl hz rfl (lv_room (Nat.le_of_ble_eq_true hs)) hd hf) C.2.2.2.2.2.2 kk
theorem e_cHi (C : EC X G own cc nL) {Rm : Room} (hX : X.R = Rm) {wc W' : va_W} {r0 : Int32} {Cn : String} {y : MethodName} {fr lo : Nat} {As : List Value} {bytes : ByteArray} {maxL index b ci : Nat} (q0 : Nat) {ret : Option FieldType} {T : u_T} {N : Nat} {fs st0 : List Value}
    (hM : Con X.l G y bytes maxL ret (rz fr lo) (.ref b :: As) wc (DI r0 W')) (hc : Cond.code y bytes maxL ret ∈ GT) (hi : Cond.initialized y.cls ∈ GT) (hl : Cond.methodLink own index ⟨Cn, y.name, y.desc⟩ ∈ GT) (hsm : Cond.sameMethod Cn y.cls y.name y.desc ∈ GT) (hin : Cond.instanceMethod y ∈ GT) (hse : Cond.selects Cn ⟨Cn, y.name, y.desc⟩ y ∈ GT) (hd : decode cc pc = .ok (.invokevirtual index, 3)) (hst : st0 = As.reverse ++ .ref b :: st) (hy : eY y As.length = true) (hR : eR (rz fr lo) Rm maxL = true) (he : wc[q0]? = some (b, ob ci fs)) (hk : KL[ci]? = some (Cn, T, N)) (hs : Nat.ble (st.map fun v : Value => v.category).sum 8 = true) (hf : cells ≤ X.R.cells ∧ slots ≤ X.R.slots)
    (kk : EW X G nL cells slots (pc + 3) lv (.int r0 :: st) W') : EW X G nL cells slots pc lv st0 wc := by
  subst hst
  have h := e_callH (wr := []) (cells := cells) (slots := slots) (lv := lv) C As q0 hM hc hi hl hsm hin hse hd hy (by rw [hX]; exact hR) hk he hs hf (fun r u hB => by rw [List.append_nil]; obtain ⟨rfl, rfl⟩ := hB; exact kk)
  rw [List.append_nil] at h
  exact h
end CallH
/-! RULE 5 -/
theorem ey_Rule_firstUnmarked : eY y_Rule_firstUnmarked 4 = true := by decide +kernel
theorem d_Rule_firstUnmarked_0 : decode c_Rule_firstUnmarked 0 = .ok (.iconst (-1), 1) := by decide +kernel
theorem d_Rule_firstUnmarked_1 : decode c_Rule_firstUnmarked 1 = .ok (.istore 5, 2) := by decide +kernel
theorem d_Rule_firstUnmarked_3 : decode c_Rule_firstUnmarked 3 = .ok (.iconst 0, 1) := by decide +kernel
theorem d_Rule_firstUnmarked_4 : decode c_Rule_firstUnmarked 4 = .ok (.istore 6, 2) := by decide +kernel
theorem d_Rule_firstUnmarked_6 : decode c_Rule_firstUnmarked 6 = .ok (.iload 6, 2) := by decide +kernel
theorem d_Rule_firstUnmarked_8 : decode c_Rule_firstUnmarked 8 = .ok (.aload_n 0, 1) := by decide +kernel
theorem d_Rule_firstUnmarked_9 : decode c_Rule_firstUnmarked 9 = .ok (.getfield 9, 3) := by decide +kernel
theorem d_Rule_firstUnmarked_12 : decode c_Rule_firstUnmarked 12 = .ok (.if_icmp .ge 80, 3) := by decide +kernel
theorem d_Rule_firstUnmarked_15 : decode c_Rule_firstUnmarked 15 = .ok (.iload_n 2, 1) := by decide +kernel
theorem d_Rule_firstUnmarked_16 : decode c_Rule_firstUnmarked 16 = .ok (.iload 6, 2) := by decide +kernel
theorem d_Rule_firstUnmarked_18 : decode c_Rule_firstUnmarked 18 = .ok (.iadd, 1) := by decide +kernel
theorem d_Rule_firstUnmarked_19 : decode c_Rule_firstUnmarked 19 = .ok (.aload_n 0, 1) := by decide +kernel
theorem d_Rule_firstUnmarked_20 : decode c_Rule_firstUnmarked 20 = .ok (.getfield 9, 3) := by decide +kernel
theorem d_Rule_firstUnmarked_23 : decode c_Rule_firstUnmarked 23 = .ok (.if_icmp .ge 10, 3) := by decide +kernel
theorem d_Rule_firstUnmarked_26 : decode c_Rule_firstUnmarked 26 = .ok (.iload_n 2, 1) := by decide +kernel
theorem d_Rule_firstUnmarked_27 : decode c_Rule_firstUnmarked 27 = .ok (.iload 6, 2) := by decide +kernel
theorem d_Rule_firstUnmarked_29 : decode c_Rule_firstUnmarked 29 = .ok (.iadd, 1) := by decide +kernel
theorem d_Rule_firstUnmarked_30 : decode c_Rule_firstUnmarked 30 = .ok (.goto 12, 3) := by decide +kernel
theorem d_Rule_firstUnmarked_33 : decode c_Rule_firstUnmarked 33 = .ok (.iload_n 2, 1) := by decide +kernel
theorem d_Rule_firstUnmarked_34 : decode c_Rule_firstUnmarked 34 = .ok (.iload 6, 2) := by decide +kernel
theorem d_Rule_firstUnmarked_36 : decode c_Rule_firstUnmarked 36 = .ok (.iadd, 1) := by decide +kernel
theorem d_Rule_firstUnmarked_37 : decode c_Rule_firstUnmarked 37 = .ok (.aload_n 0, 1) := by decide +kernel
theorem d_Rule_firstUnmarked_38 : decode c_Rule_firstUnmarked 38 = .ok (.getfield 9, 3) := by decide +kernel
theorem d_Rule_firstUnmarked_41 : decode c_Rule_firstUnmarked 41 = .ok (.isub, 1) := by decide +kernel
theorem d_Rule_firstUnmarked_42 : decode c_Rule_firstUnmarked 42 = .ok (.istore 7, 2) := by decide +kernel
theorem d_Rule_firstUnmarked_44 : decode c_Rule_firstUnmarked 44 = .ok (.aload 4, 2) := by decide +kernel
theorem d_Rule_firstUnmarked_46 : decode c_Rule_firstUnmarked 46 = .ok (.iload_n 1, 1) := by decide +kernel
theorem d_Rule_firstUnmarked_47 : decode c_Rule_firstUnmarked 47 = .ok (.aload_n 0, 1) := by decide +kernel
theorem d_Rule_firstUnmarked_48 : decode c_Rule_firstUnmarked 48 = .ok (.getfield 9, 3) := by decide +kernel
theorem d_Rule_firstUnmarked_51 : decode c_Rule_firstUnmarked 51 = .ok (.imul, 1) := by decide +kernel
theorem d_Rule_firstUnmarked_52 : decode c_Rule_firstUnmarked 52 = .ok (.iload 7, 2) := by decide +kernel
theorem d_Rule_firstUnmarked_54 : decode c_Rule_firstUnmarked 54 = .ok (.iadd, 1) := by decide +kernel
theorem d_Rule_firstUnmarked_55 : decode c_Rule_firstUnmarked 55 = .ok (.baload, 1) := by decide +kernel
theorem d_Rule_firstUnmarked_56 : decode c_Rule_firstUnmarked 56 = .ok (.ifCond .ne 30, 3) := by decide +kernel
theorem d_Rule_firstUnmarked_59 : decode c_Rule_firstUnmarked 59 = .ok (.aload_n 3, 1) := by decide +kernel
theorem d_Rule_firstUnmarked_60 : decode c_Rule_firstUnmarked 60 = .ok (.iload_n 1, 1) := by decide +kernel
theorem d_Rule_firstUnmarked_61 : decode c_Rule_firstUnmarked 61 = .ok (.aload_n 0, 1) := by decide +kernel
theorem d_Rule_firstUnmarked_62 : decode c_Rule_firstUnmarked 62 = .ok (.getfield 9, 3) := by decide +kernel
theorem d_Rule_firstUnmarked_65 : decode c_Rule_firstUnmarked 65 = .ok (.imul, 1) := by decide +kernel
theorem d_Rule_firstUnmarked_66 : decode c_Rule_firstUnmarked 66 = .ok (.iload 7, 2) := by decide +kernel
theorem d_Rule_firstUnmarked_68 : decode c_Rule_firstUnmarked 68 = .ok (.iadd, 1) := by decide +kernel
theorem d_Rule_firstUnmarked_69 : decode c_Rule_firstUnmarked 69 = .ok (.baload, 1) := by decide +kernel
theorem d_Rule_firstUnmarked_70 : decode c_Rule_firstUnmarked 70 = .ok (.ifCond .ne 6, 3) := by decide +kernel
theorem d_Rule_firstUnmarked_73 : decode c_Rule_firstUnmarked 73 = .ok (.iload 7, 2) := by decide +kernel
theorem d_Rule_firstUnmarked_75 : decode c_Rule_firstUnmarked 75 = .ok (.ireturn, 1) := by decide +kernel
theorem d_Rule_firstUnmarked_76 : decode c_Rule_firstUnmarked 76 = .ok (.iload 5, 2) := by decide +kernel
theorem d_Rule_firstUnmarked_78 : decode c_Rule_firstUnmarked 78 = .ok (.iconst (-1), 1) := by decide +kernel
theorem d_Rule_firstUnmarked_79 : decode c_Rule_firstUnmarked 79 = .ok (.if_icmp .ne 7, 3) := by decide +kernel
theorem d_Rule_firstUnmarked_82 : decode c_Rule_firstUnmarked 82 = .ok (.iload 7, 2) := by decide +kernel
theorem d_Rule_firstUnmarked_84 : decode c_Rule_firstUnmarked 84 = .ok (.istore 5, 2) := by decide +kernel
theorem d_Rule_firstUnmarked_86 : decode c_Rule_firstUnmarked 86 = .ok (.iinc 6 1, 3) := by decide +kernel
theorem d_Rule_firstUnmarked_89 : decode c_Rule_firstUnmarked 89 = .ok (.goto (-83), 3) := by decide +kernel
theorem d_Rule_firstUnmarked_92 : decode c_Rule_firstUnmarked 92 = .ok (.iload 5, 2) := by decide +kernel
theorem d_Rule_firstUnmarked_94 : decode c_Rule_firstUnmarked 94 = .ok (.ireturn, 1) := by decide +kernel
theorem ey_Round_use : eY y_Round_use 2 = true := by decide +kernel
theorem d_Round_use_0 : decode c_Round_use 0 = .ok (.aload_n 0, 1) := by decide +kernel
theorem d_Round_use_1 : decode c_Round_use 1 = .ok (.getfield 7, 3) := by decide +kernel
theorem d_Round_use_4 : decode c_Round_use 4 = .ok (.iload_n 1, 1) := by decide +kernel
theorem d_Round_use_5 : decode c_Round_use 5 = .ok (.aload_n 0, 1) := by decide +kernel
theorem d_Round_use_6 : decode c_Round_use 6 = .ok (.getfield 17, 3) := by decide +kernel
theorem d_Round_use_9 : decode c_Round_use 9 = .ok (.imul, 1) := by decide +kernel
theorem d_Round_use_10 : decode c_Round_use 10 = .ok (.iload_n 2, 1) := by decide +kernel
theorem d_Round_use_11 : decode c_Round_use 11 = .ok (.iadd, 1) := by decide +kernel
theorem d_Round_use_12 : decode c_Round_use 12 = .ok (.iconst 1, 1) := by decide +kernel
theorem d_Round_use_13 : decode c_Round_use 13 = .ok (.bastore, 1) := by decide +kernel
theorem d_Round_use_14 : decode c_Round_use 14 = .ok (.return_, 1) := by decide +kernel
theorem ey_Round_come : eY y_Round_come 2 = true := by decide +kernel
theorem d_Round_come_0 : decode c_Round_come 0 = .ok (.aload_n 0, 1) := by decide +kernel
theorem d_Round_come_1 : decode c_Round_come 1 = .ok (.getfield 7, 3) := by decide +kernel
theorem d_Round_come_4 : decode c_Round_come 4 = .ok (.iload_n 1, 1) := by decide +kernel
theorem d_Round_come_5 : decode c_Round_come 5 = .ok (.aload_n 0, 1) := by decide +kernel
theorem d_Round_come_6 : decode c_Round_come 6 = .ok (.getfield 17, 3) := by decide +kernel
theorem d_Round_come_9 : decode c_Round_come 9 = .ok (.imul, 1) := by decide +kernel
theorem d_Round_come_10 : decode c_Round_come 10 = .ok (.iload_n 2, 1) := by decide +kernel
theorem d_Round_come_11 : decode c_Round_come 11 = .ok (.iadd, 1) := by decide +kernel
theorem d_Round_come_12 : decode c_Round_come 12 = .ok (.iconst 0, 1) := by decide +kernel
theorem d_Round_come_13 : decode c_Round_come 13 = .ok (.bastore, 1) := by decide +kernel
theorem d_Round_come_14 : decode c_Round_come 14 = .ok (.return_, 1) := by decide +kernel
theorem ey_Round_choose : eY y_Round_choose 2 = true := by decide +kernel
theorem d_Round_choose_0 : decode c_Round_choose 0 = .ok (.aload_n 0, 1) := by decide +kernel
theorem d_Round_choose_1 : decode c_Round_choose 1 = .ok (.iload_n 1, 1) := by decide +kernel
theorem d_Round_choose_2 : decode c_Round_choose 2 = .ok (.aload_n 0, 1) := by decide +kernel
theorem d_Round_choose_3 : decode c_Round_choose 3 = .ok (.getfield 13, 3) := by decide +kernel
theorem d_Round_choose_6 : decode c_Round_choose 6 = .ok (.iload_n 1, 1) := by decide +kernel
theorem d_Round_choose_7 : decode c_Round_choose 7 = .ok (.iaload, 1) := by decide +kernel
theorem d_Round_choose_8 : decode c_Round_choose 8 = .ok (.aload_n 0, 1) := by decide +kernel
theorem d_Round_choose_9 : decode c_Round_choose 9 = .ok (.getfield 7, 3) := by decide +kernel
theorem d_Round_choose_12 : decode c_Round_choose 12 = .ok (.aload_n 2, 1) := by decide +kernel
theorem d_Round_choose_13 : decode c_Round_choose 13 = .ok (.invokevirtual 21, 3) := by decide +kernel
theorem d_Round_choose_16 : decode c_Round_choose 16 = .ok (.ireturn, 1) := by decide +kernel
theorem ey_Round_settle : eY y_Round_settle 3 = true := by decide +kernel
theorem d_Round_settle_0 : decode c_Round_settle 0 = .ok (.aload_n 0, 1) := by decide +kernel
theorem d_Round_settle_1 : decode c_Round_settle 1 = .ok (.getfield 7, 3) := by decide +kernel
theorem d_Round_settle_4 : decode c_Round_settle 4 = .ok (.iload_n 1, 1) := by decide +kernel
theorem d_Round_settle_5 : decode c_Round_settle 5 = .ok (.aload_n 0, 1) := by decide +kernel
theorem d_Round_settle_6 : decode c_Round_settle 6 = .ok (.getfield 17, 3) := by decide +kernel
theorem d_Round_settle_9 : decode c_Round_settle 9 = .ok (.imul, 1) := by decide +kernel
theorem d_Round_settle_10 : decode c_Round_settle 10 = .ok (.iload_n 2, 1) := by decide +kernel
theorem d_Round_settle_11 : decode c_Round_settle 11 = .ok (.iadd, 1) := by decide +kernel
theorem d_Round_settle_12 : decode c_Round_settle 12 = .ok (.baload, 1) := by decide +kernel
theorem d_Round_settle_13 : decode c_Round_settle 13 = .ok (.istore 4, 2) := by decide +kernel
theorem d_Round_settle_15 : decode c_Round_settle 15 = .ok (.iconst 0, 1) := by decide +kernel
theorem d_Round_settle_16 : decode c_Round_settle 16 = .ok (.istore 5, 2) := by decide +kernel
theorem d_Round_settle_18 : decode c_Round_settle 18 = .ok (.iload 5, 2) := by decide +kernel
theorem d_Round_settle_20 : decode c_Round_settle 20 = .ok (.aload_n 0, 1) := by decide +kernel
theorem d_Round_settle_21 : decode c_Round_settle 21 = .ok (.getfield 17, 3) := by decide +kernel
theorem d_Round_settle_24 : decode c_Round_settle 24 = .ok (.if_icmp .ge 96, 3) := by decide +kernel
theorem d_Round_settle_27 : decode c_Round_settle 27 = .ok (.aload_n 0, 1) := by decide +kernel
theorem d_Round_settle_28 : decode c_Round_settle 28 = .ok (.getfield 13, 3) := by decide +kernel
theorem d_Round_settle_31 : decode c_Round_settle 31 = .ok (.iload_n 1, 1) := by decide +kernel
theorem d_Round_settle_32 : decode c_Round_settle 32 = .ok (.iaload, 1) := by decide +kernel
theorem d_Round_settle_33 : decode c_Round_settle 33 = .ok (.iload 5, 2) := by decide +kernel
theorem d_Round_settle_35 : decode c_Round_settle 35 = .ok (.iadd, 1) := by decide +kernel
theorem d_Round_settle_36 : decode c_Round_settle 36 = .ok (.aload_n 0, 1) := by decide +kernel
theorem d_Round_settle_37 : decode c_Round_settle 37 = .ok (.getfield 17, 3) := by decide +kernel
theorem d_Round_settle_40 : decode c_Round_settle 40 = .ok (.if_icmp .ge 15, 3) := by decide +kernel
theorem d_Round_settle_43 : decode c_Round_settle 43 = .ok (.aload_n 0, 1) := by decide +kernel
theorem d_Round_settle_44 : decode c_Round_settle 44 = .ok (.getfield 13, 3) := by decide +kernel
theorem d_Round_settle_47 : decode c_Round_settle 47 = .ok (.iload_n 1, 1) := by decide +kernel
theorem d_Round_settle_48 : decode c_Round_settle 48 = .ok (.iaload, 1) := by decide +kernel
theorem d_Round_settle_49 : decode c_Round_settle 49 = .ok (.iload 5, 2) := by decide +kernel
theorem d_Round_settle_51 : decode c_Round_settle 51 = .ok (.iadd, 1) := by decide +kernel
theorem d_Round_settle_52 : decode c_Round_settle 52 = .ok (.goto 17, 3) := by decide +kernel
theorem d_Round_settle_55 : decode c_Round_settle 55 = .ok (.aload_n 0, 1) := by decide +kernel
theorem d_Round_settle_56 : decode c_Round_settle 56 = .ok (.getfield 13, 3) := by decide +kernel
theorem d_Round_settle_59 : decode c_Round_settle 59 = .ok (.iload_n 1, 1) := by decide +kernel
theorem d_Round_settle_60 : decode c_Round_settle 60 = .ok (.iaload, 1) := by decide +kernel
theorem d_Round_settle_61 : decode c_Round_settle 61 = .ok (.iload 5, 2) := by decide +kernel
theorem d_Round_settle_63 : decode c_Round_settle 63 = .ok (.iadd, 1) := by decide +kernel
theorem d_Round_settle_64 : decode c_Round_settle 64 = .ok (.aload_n 0, 1) := by decide +kernel
theorem d_Round_settle_65 : decode c_Round_settle 65 = .ok (.getfield 17, 3) := by decide +kernel
theorem d_Round_settle_68 : decode c_Round_settle 68 = .ok (.isub, 1) := by decide +kernel
theorem d_Round_settle_69 : decode c_Round_settle 69 = .ok (.istore 6, 2) := by decide +kernel
theorem d_Round_settle_71 : decode c_Round_settle 71 = .ok (.iload 6, 2) := by decide +kernel
theorem d_Round_settle_73 : decode c_Round_settle 73 = .ok (.iload_n 2, 1) := by decide +kernel
theorem d_Round_settle_74 : decode c_Round_settle 74 = .ok (.if_icmp .ne 11, 3) := by decide +kernel
theorem d_Round_settle_77 : decode c_Round_settle 77 = .ok (.iload 4, 2) := by decide +kernel
theorem d_Round_settle_79 : decode c_Round_settle 79 = .ok (.ifCond .ne 6, 3) := by decide +kernel
theorem d_Round_settle_82 : decode c_Round_settle 82 = .ok (.goto 38, 3) := by decide +kernel
theorem d_Round_settle_85 : decode c_Round_settle 85 = .ok (.aload_n 3, 1) := by decide +kernel
theorem d_Round_settle_86 : decode c_Round_settle 86 = .ok (.iload_n 1, 1) := by decide +kernel
theorem d_Round_settle_87 : decode c_Round_settle 87 = .ok (.aload_n 0, 1) := by decide +kernel
theorem d_Round_settle_88 : decode c_Round_settle 88 = .ok (.getfield 17, 3) := by decide +kernel
theorem d_Round_settle_91 : decode c_Round_settle 91 = .ok (.imul, 1) := by decide +kernel
theorem d_Round_settle_92 : decode c_Round_settle 92 = .ok (.iload 6, 2) := by decide +kernel
theorem d_Round_settle_94 : decode c_Round_settle 94 = .ok (.iadd, 1) := by decide +kernel
theorem d_Round_settle_95 : decode c_Round_settle 95 = .ok (.baload, 1) := by decide +kernel
theorem d_Round_settle_96 : decode c_Round_settle 96 = .ok (.ifCond .ne 18, 3) := by decide +kernel
theorem d_Round_settle_99 : decode c_Round_settle 99 = .ok (.aload_n 0, 1) := by decide +kernel
theorem d_Round_settle_100 : decode c_Round_settle 100 = .ok (.getfield 7, 3) := by decide +kernel
theorem d_Round_settle_103 : decode c_Round_settle 103 = .ok (.iload_n 1, 1) := by decide +kernel
theorem d_Round_settle_104 : decode c_Round_settle 104 = .ok (.aload_n 0, 1) := by decide +kernel
theorem d_Round_settle_105 : decode c_Round_settle 105 = .ok (.getfield 17, 3) := by decide +kernel
theorem d_Round_settle_108 : decode c_Round_settle 108 = .ok (.imul, 1) := by decide +kernel
theorem d_Round_settle_109 : decode c_Round_settle 109 = .ok (.iload 6, 2) := by decide +kernel
theorem d_Round_settle_111 : decode c_Round_settle 111 = .ok (.iadd, 1) := by decide +kernel
theorem d_Round_settle_112 : decode c_Round_settle 112 = .ok (.iconst 0, 1) := by decide +kernel
theorem d_Round_settle_113 : decode c_Round_settle 113 = .ok (.bastore, 1) := by decide +kernel
theorem d_Round_settle_114 : decode c_Round_settle 114 = .ok (.iinc 5 1, 3) := by decide +kernel
theorem d_Round_settle_117 : decode c_Round_settle 117 = .ok (.goto (-99), 3) := by decide +kernel
theorem d_Round_settle_120 : decode c_Round_settle 120 = .ok (.aload_n 0, 1) := by decide +kernel
theorem d_Round_settle_121 : decode c_Round_settle 121 = .ok (.getfield 13, 3) := by decide +kernel
theorem d_Round_settle_124 : decode c_Round_settle 124 = .ok (.iload_n 1, 1) := by decide +kernel
theorem d_Round_settle_125 : decode c_Round_settle 125 = .ok (.iload_n 2, 1) := by decide +kernel
theorem d_Round_settle_126 : decode c_Round_settle 126 = .ok (.iconst 1, 1) := by decide +kernel
theorem d_Round_settle_127 : decode c_Round_settle 127 = .ok (.iadd, 1) := by decide +kernel
theorem d_Round_settle_128 : decode c_Round_settle 128 = .ok (.aload_n 0, 1) := by decide +kernel
theorem d_Round_settle_129 : decode c_Round_settle 129 = .ok (.getfield 17, 3) := by decide +kernel
theorem d_Round_settle_132 : decode c_Round_settle 132 = .ok (.if_icmp .ge 9, 3) := by decide +kernel
theorem d_Round_settle_135 : decode c_Round_settle 135 = .ok (.iload_n 2, 1) := by decide +kernel
theorem d_Round_settle_136 : decode c_Round_settle 136 = .ok (.iconst 1, 1) := by decide +kernel
theorem d_Round_settle_137 : decode c_Round_settle 137 = .ok (.iadd, 1) := by decide +kernel
theorem d_Round_settle_138 : decode c_Round_settle 138 = .ok (.goto 4, 3) := by decide +kernel
theorem d_Round_settle_141 : decode c_Round_settle 141 = .ok (.iconst 0, 1) := by decide +kernel
theorem d_Round_settle_142 : decode c_Round_settle 142 = .ok (.iastore, 1) := by decide +kernel
theorem d_Round_settle_143 : decode c_Round_settle 143 = .ok (.return_, 1) := by decide +kernel
abbrev wR (G : EG) (a : Nat → Nat) (v : Nat → Int32) (f : Nat → Nat → Int32) (n S V : Nat) : va_W := cF G a v f n V (rRound G a v f n S)
/-- the way that lies t behind the hand -/
def wfh (wd h0 t : Nat) : Nat := if h0 + t < wd then h0 + t else h0 + t - wd
theorem wfh_lt {wd h0 t : Nat} (h : h0 < wd) (ht : t < wd) : wfh wd h0 t < wd := by
  unfold wfh
  split <;> omega
/-- marked, by the way of a set -/
def mkd (f : Nat → Nat → Int32) (wd s w : Nat) : Bool := !(f 22 (s * wd + w) == 0)
/-- the first without a mark; b is the first one that is free so far -/
def rndC (lk mk : Nat → Bool) (wy : Nat → Nat) : Option Nat → Nat → Nat → Option Nat
  | b, _, 0 => b
  | b, k, m + 1 => if lk (wy k) then rndC lk mk wy b (k + 1) m else if mk (wy k) then rndC lk mk wy (match b with
    | none => some (wy k)
    | some j => some j) (k + 1) m else some (wy k)
/-- marks taken away on the way -/
def rndS (lk : Nat → Bool) (wy : Nat → Nat) (whole : Bool) (w b0 : Nat) : (Nat → Int32) → Nat → Nat → (Nat → Int32)
  | g, _, 0 => g
  | g, k, m + 1 => if wy k = w ∧ whole = false then g else rndS lk wy whole w b0 (if lk (wy k) then g else upd g (b0 + wy k) 0) (k + 1) m
section RoundRows
variable {l : Launch} {G : EG} {a : Nat → Nat} {v : Nat → Int32} {f : Nat → Nat → Int32} {V S wd s w : Nat}
set_option maxRecDepth 100000 in
theorem k_Round_use (h : CD v S wd) (hs : s < S) (hw : w < wd) : Con l G y_Round_use c_Round_use 3 none (rz 0 0) [.ref (a 21), .int (nI s), .int (nI w)] (wR G a v f (S * wd) S V) (DV (wR G a v (up2 f 22 (upd (f 22) (s * wd + w) 1)) (S * wd) S V)) := by
  refine Con.of rfl rfl (fun X C E hR hl hn => ?_)
  have hn1 := h.n128
  have hlt := slot_lt hs hw
  refine e_aload_n C d_Round_use_0 rfl ?_
  refine e_get C 21 (k := 1) in_Round g139 d_Round_use_1 rfl rfl rfl rfl ?_
  refine e_iload_n C d_Round_use_4 rfl ?_
  refine e_aload_n C d_Round_use_5 rfl ?_
  refine e_getI C 21 (k := 0) in_Round g122 g123 d_Round_use_6 rfl rfl rfl rfl ?_
  refine e_imul C d_Round_use_9 ?_
  refine e_iload_n C d_Round_use_10 rfl ?_
  refine e_iadd C d_Round_use_11 ?_
  refine e_iconst C d_Round_use_12 (v := 1) (by decide) ?_
  refine e_zast C 22 1 d_Round_use_13 rfl rfl (s * wd + w) (by rw [h.2.1, pk_mul, nI_add]) hlt (by omega) rfl ?_
  exact e_vret C E d_Round_use_14 (Nat.le_refl _) (Nat.le_refl _) ⟨rfl, rfl⟩
set_option maxRecDepth 100000 in
theorem k_Round_come (h : CD v S wd) (hs : s < S) (hw : w < wd) : Con l G y_Round_come c_Round_come 3 none (rz 0 0) [.ref (a 21), .int (nI s), .int (nI w)] (wR G a v f (S * wd) S V) (DV (wR G a v (up2 f 22 (upd (f 22) (s * wd + w) 0)) (S * wd) S V)) := by
  refine Con.of rfl rfl (fun X C E hR hl hn => ?_)
  have hn1 := h.n128
  have hlt := slot_lt hs hw
  refine e_aload_n C d_Round_come_0 rfl ?_
  refine e_get C 21 (k := 1) in_Round g139 d_Round_come_1 rfl rfl rfl rfl ?_
  refine e_iload_n C d_Round_come_4 rfl ?_
  refine e_aload_n C d_Round_come_5 rfl ?_
  refine e_getI C 21 (k := 0) in_Round g122 g123 d_Round_come_6 rfl rfl rfl rfl ?_
  refine e_imul C d_Round_come_9 ?_
  refine e_iload_n C d_Round_come_10 rfl ?_
  refine e_iadd C d_Round_come_11 ?_
  refine e_iconst C d_Round_come_12 (v := 0) (by decide) ?_
  refine e_zast C 22 1 d_Round_come_13 rfl rfl (s * wd + w) (by rw [h.2.1, pk_mul, nI_add]) hlt (by omega) rfl ?_
  exact e_vret C E d_Round_come_14 (Nat.le_refl _) (Nat.le_refl _) ⟨rfl, rfl⟩
set_option maxRecDepth 100000 in
theorem k_fuR (h : CD v S wd) (hs : s < S) {h0 : Nat} (hh0 : h0 < wd) : Con l G y_Rule_firstUnmarked c_Rule_firstUnmarked 8 (some .int) (rz 0 0) [.ref (a 21), .int (nI s), .int (nI h0), .ref (a 22), .ref (a 6)] (wR G a v f (S * wd) S V) (DI (oI (rndC (lkd f wd s) (mkd f wd s) (wfh wd h0) none 0 wd)) (wR G a v f (S * wd) S V)) := by
  refine Con.of rfl rfl (fun X C E hR hl hn => ?_)
  have hn1 := h.n128
  have hw8 := h.2.2.2.2
  refine e_iconst C d_Rule_firstUnmarked_0 (v := (-1)) (by decide) ?_
  refine e_istore C d_Rule_firstUnmarked_1 rfl ?_
  refine e_iconst C d_Rule_firstUnmarked_3 (v := 0) (by decide) ?_
  refine e_istore C d_Rule_firstUnmarked_4 rfl ?_
  have L : ∀ (m k : Nat) (b : Option Nat), k + m = wd → (∀ j, b = some j → j < wd) → rndC (lkd f wd s) (mkd f wd s) (wfh wd h0) b k m = rndC (lkd f wd s) (mkd f wd s) (wfh wd h0) none 0 wd → EW X G 8 0 0 6 [(0, .ref (a 21)), (1, .int (nI s)), (2, .int (nI h0)), (3, .ref (a 22)), (4, .ref (a 6)), (5, .int (oI b)), (6, .int (nI k))] [] (wR G a v f (S * wd) S V) := by
    intro m
    induction m with
    | zero =>
      intro k b hk hb hf
      refine e_iload C d_Rule_firstUnmarked_6 rfl ?_
      refine e_aload_n C d_Rule_firstUnmarked_8 rfl ?_
      refine e_get C 21 (k := 0) in_Round g115 d_Rule_firstUnmarked_9 rfl rfl rfl rfl ?_
      refine e_top h.2.1 ?_
      refine e_icmp_ge C d_Rule_firstUnmarked_12 (tgt := 92) (by decide) (fun h12 => ?_) (fun h12 => ?_)
      · skip
        refine e_iload C d_Rule_firstUnmarked_92 rfl ?_
        exact e_iret C E d_Rule_firstUnmarked_94 (Nat.le_refl _) (Nat.le_refl _) rfl ⟨by rw [← hf]; rfl, rfl⟩
      · exact absurd (nI_le (by omega) (by omega)) h12
    | succ m ih =>
      intro k b hk hb hf
      have hwl := wfh_lt hh0 (show k < wd by omega)
      have hlt := slot_lt hs hwl
      have T : EW X G 8 0 0 42 [(0, .ref (a 21)), (1, .int (nI s)), (2, .int (nI h0)), (3, .ref (a 22)), (4, .ref (a 6)), (5, .int (oI b)), (6, .int (nI k))] [.int (nI (wfh wd h0 k))] (wR G a v f (S * wd) S V) := by
        refine e_istore C d_Rule_firstUnmarked_42 rfl ?_
        refine e_aload C d_Rule_firstUnmarked_44 rfl ?_
        refine e_iload_n C d_Rule_firstUnmarked_46 rfl ?_
        refine e_aload_n C d_Rule_firstUnmarked_47 rfl ?_
        refine e_get C 21 (k := 0) in_Round g115 d_Rule_firstUnmarked_48 rfl rfl rfl rfl ?_
        refine e_imul C d_Rule_firstUnmarked_51 ?_
        refine e_iload C d_Rule_firstUnmarked_52 rfl ?_
        refine e_iadd C d_Rule_firstUnmarked_54 ?_
        refine e_zald C 6 1 d_Rule_firstUnmarked_55 rfl rfl (s * wd + wfh wd h0 k) (by rw [h.2.1, pk_mul, nI_add]) hlt (by omega) ?_
        refine e_if_ne C d_Rule_firstUnmarked_56 (tgt := 86) (by decide) (fun h56 => ?_) (fun h56 => ?_)
        · have hl2 : lkd f wd s (wfh wd h0 k) = true := by simp [lkd]; exact h56
          refine e_iinc C d_Rule_firstUnmarked_86 rfl (nI_1 k) rfl ?_
          refine e_goto C d_Rule_firstUnmarked_89 (tgt := 6) (by decide) ?_
          exact e_lv2 (ih (k + 1) b (by omega) hb (by rw [← hf]; simp [rndC, hl2])) rfl
        · have hl2 : lkd f wd s (wfh wd h0 k) = false := by simp [lkd]; exact h56
          refine e_aload_n C d_Rule_firstUnmarked_59 rfl ?_
          refine e_iload_n C d_Rule_firstUnmarked_60 rfl ?_
          refine e_aload_n C d_Rule_firstUnmarked_61 rfl ?_
          refine e_get C 21 (k := 0) in_Round g115 d_Rule_firstUnmarked_62 rfl rfl rfl rfl ?_
          refine e_imul C d_Rule_firstUnmarked_65 ?_
          refine e_iload C d_Rule_firstUnmarked_66 rfl ?_
          refine e_iadd C d_Rule_firstUnmarked_68 ?_
          refine e_zald C 22 1 d_Rule_firstUnmarked_69 rfl rfl (s * wd + wfh wd h0 k) (by rw [h.2.1, pk_mul, nI_add]) hlt (by omega) ?_
          refine e_if_ne C d_Rule_firstUnmarked_70 (tgt := 76) (by decide) (fun h70 => ?_) (fun h70 => ?_)
          · have hm2 : mkd f wd s (wfh wd h0 k) = true := by simp [mkd]; exact h70
            refine e_iload C d_Rule_firstUnmarked_76 rfl ?_
            refine e_iconst C d_Rule_firstUnmarked_78 (v := (-1)) (by decide) ?_
            refine e_icmp_ne C d_Rule_firstUnmarked_79 (tgt := 86) (by decide) (fun h79 => ?_) (fun h79 => ?_)
            · cases b with
              | none => exact absurd rfl h79
              | some j =>
                refine e_iinc C d_Rule_firstUnmarked_86 rfl (nI_1 k) rfl ?_
                refine e_goto C d_Rule_firstUnmarked_89 (tgt := 6) (by decide) ?_
                exact e_lv2 (ih (k + 1) (some j) (by omega) hb (by rw [← hf]; simp [rndC, hl2, hm2])) rfl
            · cases b with
              | some j => exact absurd h79 (by rw [oI_n1 (fun k hk => by have := hb k hk; omega)]; simp)
              | none =>
                refine e_iload C d_Rule_firstUnmarked_82 rfl ?_
                refine e_istore C d_Rule_firstUnmarked_84 rfl ?_
                refine e_iinc C d_Rule_firstUnmarked_86 rfl (nI_1 k) rfl ?_
                refine e_goto C d_Rule_firstUnmarked_89 (tgt := 6) (by decide) ?_
                exact e_lv2 (ih (k + 1) (some (wfh wd h0 k)) (by omega) (fun j hj => by cases hj; exact hwl) (by rw [← hf]; simp [rndC, hl2, hm2])) rfl
          · have hm2 : mkd f wd s (wfh wd h0 k) = false := by simp [mkd]; exact h70
            refine e_iload C d_Rule_firstUnmarked_73 rfl ?_
            exact e_iret C E d_Rule_firstUnmarked_75 (Nat.le_refl _) (Nat.le_refl _) rfl ⟨by rw [← hf]; simp [rndC, hl2, hm2, oI], rfl⟩
      refine e_iload C d_Rule_firstUnmarked_6 rfl ?_
      refine e_aload_n C d_Rule_firstUnmarked_8 rfl ?_
      refine e_get C 21 (k := 0) in_Round g115 d_Rule_firstUnmarked_9 rfl rfl rfl rfl ?_
      refine e_top h.2.1 ?_
      refine e_icmp_ge C d_Rule_firstUnmarked_12 (tgt := 92) (by decide) (fun h12 => ?_) (fun h12 => ?_)
      · exact absurd h12 (nI_ge (by omega) (by omega))
      · skip
        refine e_iload_n C d_Rule_firstUnmarked_15 rfl ?_
        refine e_iload C d_Rule_firstUnmarked_16 rfl ?_
        refine e_iadd C d_Rule_firstUnmarked_18 ?_
        refine e_top (y := nI (h0 + k)) (nI_add _ _) ?_
        refine e_aload_n C d_Rule_firstUnmarked_19 rfl ?_
        refine e_get C 21 (k := 0) in_Round g115 d_Rule_firstUnmarked_20 rfl rfl rfl rfl ?_
        refine e_top (show _ = nI wd from h.2.1) ?_
        refine e_icmp_ge C d_Rule_firstUnmarked_23 (tgt := 33) (by decide) (fun h23 => ?_) (fun h23 => ?_)
        · rw [nI_leI (by omega) (by omega)] at h23
          rw [show wfh wd h0 k = h0 + k - wd by simp only [wfh, if_neg (show ¬ h0 + k < wd by omega)]] at T
          refine e_iload_n C d_Rule_firstUnmarked_33 rfl ?_
          refine e_iload C d_Rule_firstUnmarked_34 rfl ?_
          refine e_iadd C d_Rule_firstUnmarked_36 ?_
          refine e_top (y := nI (h0 + k)) (nI_add _ _) ?_
          refine e_aload_n C d_Rule_firstUnmarked_37 rfl ?_
          refine e_get C 21 (k := 0) in_Round g115 d_Rule_firstUnmarked_38 rfl rfl rfl rfl ?_
          refine e_top (show _ = nI wd from h.2.1) ?_
          refine e_isub C d_Rule_firstUnmarked_41 ?_
          refine e_top (pk_sub h23) ?_
          exact e_lv2 T rfl
        · rw [nI_leI (by omega) (by omega)] at h23
          rw [show wfh wd h0 k = h0 + k by simp only [wfh, if_pos (show h0 + k < wd by omega)]] at T
          refine e_iload_n C d_Rule_firstUnmarked_26 rfl ?_
          refine e_iload C d_Rule_firstUnmarked_27 rfl ?_
          refine e_iadd C d_Rule_firstUnmarked_29 ?_
          refine e_top (y := nI (h0 + k)) (nI_add _ _) ?_
          refine e_goto C d_Rule_firstUnmarked_30 (tgt := 42) (by decide) ?_
          exact e_lv2 T rfl
  exact e_lv2 (L wd 0 none (by omega) (fun j hj => by cases hj) rfl) rfl
theorem k_Round_choose (h : CD v S wd) (hs : s < S) {h0 : Nat} (hh0 : h0 < wd) (hh : f 23 s = nI h0) : Con l G y_Round_choose c_Round_choose 3 (some .int) (rz 1 27) [.ref (a 21), .int (nI s), .ref (a 6)] (wR G a v f (S * wd) S V) (DI (oI (rndC (lkd f wd s) (mkd f wd s) (wfh wd h0) none 0 wd)) (wR G a v f (S * wd) S V)) := by
  refine Con.of rfl rfl (fun X C E hR hl hn => ?_)
  have hS := h.S16
  refine e_aload_n C d_Round_choose_0 rfl ?_
  refine e_iload_n C d_Round_choose_1 rfl ?_
  refine e_aload_n C d_Round_choose_2 rfl ?_
  refine e_get C 21 (k := 2) in_Round g140 d_Round_choose_3 rfl rfl rfl rfl ?_
  refine e_iload_n C d_Round_choose_6 rfl ?_
  refine e_iald C 23 0 d_Round_choose_7 rfl rfl s rfl hs (by omega) ?_
  refine e_top hh ?_
  refine e_aload_n C d_Round_choose_8 rfl ?_
  refine e_get C 21 (k := 1) in_Round g139 d_Round_choose_9 rfl rfl rfl rfl ?_
  refine e_aload_n C d_Round_choose_12 rfl ?_
  refine e_cHi C hR 21 (k_fuR h hs hh0) g533 g5 g537 g538 g532 g539 d_Round_choose_13 rfl ey_Rule_firstUnmarked rfl rfl rfl rfl ⟨Nat.zero_le _, Nat.zero_le _⟩ ?_
  exact e_iret C E d_Round_choose_16 (Nat.le_refl _) (Nat.le_refl _) rfl ⟨rfl, rfl⟩
/-- the hand behind a way -/
def nxt (wd w : Nat) : Nat := if w + 1 < wd then w + 1 else 0
set_option maxRecDepth 100000 in
theorem settle_end {X : EX} {B : Option Value → va_W → Prop} (C : EC X G "CacheRules$RoundRule" c_Round_settle 7) (E : ER X G 0 0 B none) (h : CD v S wd) (hs : s < S) (hw : w < wd) {g : Nat → Int32} {lv : List (Nat × Value)} (hl0 : lvg lv 0 = some (.ref (a 21))) (hl1 : lvg lv 1 = some (.int (nI s))) (hl2 : lvg lv 2 = some (.int (nI w)))
    (hB : B none (wR G a v (up2 (up2 f 22 g) 23 (upd (f 23) s (nI (nxt wd w)))) (S * wd) S V)) : EW X G 7 0 0 120 lv [] (wR G a v (up2 f 22 g) (S * wd) S V) := by
  have hw8 := h.2.2.2.2
  have hS := h.S16
  refine e_aload_n C d_Round_settle_120 hl0 ?_
  refine e_get C 21 (k := 2) in_Round g140 d_Round_settle_121 rfl rfl rfl rfl ?_
  refine e_iload_n C d_Round_settle_124 hl1 ?_
  refine e_iload_n C d_Round_settle_125 hl2 ?_
  refine e_iconst C d_Round_settle_126 (v := 1) (by decide) ?_
  refine e_iadd C d_Round_settle_127 ?_
  refine e_top (nI_1 w) ?_
  refine e_aload_n C d_Round_settle_128 hl0 ?_
  refine e_getI C 21 (k := 0) in_Round g122 g123 d_Round_settle_129 rfl rfl rfl rfl ?_
  refine e_top (show _ = nI wd from h.2.1) ?_
  refine e_icmp_ge C d_Round_settle_132 (tgt := 141) (by decide) (fun h132 => ?_) (fun h132 => ?_)
  · rw [nI_leI (by omega) (by omega)] at h132
    rw [show nxt wd w = 0 by simp only [nxt, if_neg (show ¬ w + 1 < wd by omega)]] at hB
    refine e_iconst C d_Round_settle_141 (v := 0) (by decide) ?_
    refine e_iast C 23 0 d_Round_settle_142 rfl rfl s rfl hs (by omega) ?_
    exact e_vret C E d_Round_settle_143 (Nat.le_refl _) (Nat.le_refl _) hB
  · rw [nI_leI (by omega) (by omega)] at h132
    rw [show nxt wd w = w + 1 by simp only [nxt, if_pos (show w + 1 < wd by omega)]] at hB
    refine e_iload_n C d_Round_settle_135 hl2 ?_
    refine e_iconst C d_Round_settle_136 (v := 1) (by decide) ?_
    refine e_iadd C d_Round_settle_137 ?_
    refine e_top (nI_1 w) ?_
    refine e_goto C d_Round_settle_138 (tgt := 142) (by decide) ?_
    refine e_iast C 23 0 d_Round_settle_142 rfl rfl s rfl hs (by omega) ?_
    exact e_vret C E d_Round_settle_143 (Nat.le_refl _) (Nat.le_refl _) hB
set_option maxRecDepth 100000 in
theorem k_Round_settle (h : CD v S wd) (hs : s < S) (hw : w < wd) {h0 : Nat} (hh0 : h0 < wd) (hh : f 23 s = nI h0) : Con l G y_Round_settle c_Round_settle 7 none (rz 0 0) [.ref (a 21), .int (nI s), .int (nI w), .ref (a 6)] (wR G a v f (S * wd) S V) (DV (wR G a v (up2 (up2 f 22 (rndS (lkd f wd s) (wfh wd h0) (mkd f wd s w) w (s * wd) (f 22) 0 wd)) 23 (upd (f 23) s (nI (nxt wd w)))) (S * wd) S V)) := by
  refine Con.of rfl rfl (fun X C E hR hl hn => ?_)
  have hn1 := h.n128
  have hw8 := h.2.2.2.2
  have hltw := slot_lt hs hw
  have hS := h.S16
  refine e_aload_n C d_Round_settle_0 rfl ?_
  refine e_get C 21 (k := 1) in_Round g139 d_Round_settle_1 rfl rfl rfl rfl ?_
  refine e_iload_n C d_Round_settle_4 rfl ?_
  refine e_aload_n C d_Round_settle_5 rfl ?_
  refine e_getI C 21 (k := 0) in_Round g122 g123 d_Round_settle_6 rfl rfl rfl rfl ?_
  refine e_imul C d_Round_settle_9 ?_
  refine e_iload_n C d_Round_settle_10 rfl ?_
  refine e_iadd C d_Round_settle_11 ?_
  refine e_zald C 22 1 d_Round_settle_12 rfl rfl (s * wd + w) (by rw [h.2.1, pk_mul, nI_add]) hltw (by omega) ?_
  refine e_istore C d_Round_settle_13 rfl ?_
  refine e_iconst C d_Round_settle_15 (v := 0) (by decide) ?_
  refine e_istore C d_Round_settle_16 rfl ?_
  have L : ∀ (m k : Nat) (g : Nat → Int32), k + m = wd → rndS (lkd f wd s) (wfh wd h0) (mkd f wd s w) w (s * wd) g k m = rndS (lkd f wd s) (wfh wd h0) (mkd f wd s w) w (s * wd) (f 22) 0 wd → EW X G 7 0 0 18 [(0, .ref (a 21)), (1, .int (nI s)), (2, .int (nI w)), (3, .ref (a 6)), (4, .int (f 22 (s * wd + w))), (5, .int (nI k))] [] (wR G a v (up2 f 22 g) (S * wd) S V) := by
    intro m
    induction m with
    | zero =>
      intro k g hk hf
      have hf : g = _ := hf
      refine e_iload C d_Round_settle_18 rfl ?_
      refine e_aload_n C d_Round_settle_20 rfl ?_
      refine e_getI C 21 (k := 0) in_Round g122 g123 d_Round_settle_21 rfl rfl rfl rfl ?_
      refine e_top (show _ = nI wd from h.2.1) ?_
      refine e_icmp_ge C d_Round_settle_24 (tgt := 120) (by decide) (fun h24 => ?_) (fun h24 => ?_)
      · exact settle_end C E h hs hw rfl rfl rfl ⟨rfl, by rw [← hf]⟩
      · exact absurd (nI_le (by omega) (by omega)) h24
    | succ m ih =>
      intro k g hk hf
      have hwl := wfh_lt hh0 (show k < wd by omega)
      have hlt := slot_lt hs hwl
      have stepL : ¬ (wfh wd h0 k = w ∧ mkd f wd s w = false) → EW X G 7 0 0 85 [(0, .ref (a 21)), (1, .int (nI s)), (2, .int (nI w)), (3, .ref (a 6)), (4, .int (f 22 (s * wd + w))), (5, .int (nI k)), (6, .int (nI (wfh wd h0 k)))] [] (wR G a v (up2 f 22 g) (S * wd) S V) := by
        intro hne
        refine e_aload_n C d_Round_settle_85 rfl ?_
        refine e_iload_n C d_Round_settle_86 rfl ?_
        refine e_aload_n C d_Round_settle_87 rfl ?_
        refine e_getI C 21 (k := 0) in_Round g122 g123 d_Round_settle_88 rfl rfl rfl rfl ?_
        refine e_imul C d_Round_settle_91 ?_
        refine e_iload C d_Round_settle_92 rfl ?_
        refine e_iadd C d_Round_settle_94 ?_
        refine e_zald C 6 1 d_Round_settle_95 rfl rfl (s * wd + wfh wd h0 k) (by show nI s * v 7 + _ = _; rw [h.2.1, pk_mul, nI_add]) hlt (by omega) ?_
        refine e_if_ne C d_Round_settle_96 (tgt := 114) (by decide) (fun h96 => ?_) (fun h96 => ?_)
        · have hl2 : lkd f wd s (wfh wd h0 k) = true := by simp [lkd]; exact h96
          refine e_iinc C d_Round_settle_114 rfl (nI_1 k) rfl ?_
          refine e_goto C d_Round_settle_117 (tgt := 18) (by decide) ?_
          exact e_lv2 (ih (k + 1) g (by omega) (by rw [← hf]; simp only [rndS, if_neg hne, hl2, if_true])) rfl
        · have hl2 : lkd f wd s (wfh wd h0 k) = false := by simp [lkd]; exact h96
          refine e_aload_n C d_Round_settle_99 rfl ?_
          refine e_get C 21 (k := 1) in_Round g139 d_Round_settle_100 rfl rfl rfl rfl ?_
          refine e_iload_n C d_Round_settle_103 rfl ?_
          refine e_aload_n C d_Round_settle_104 rfl ?_
          refine e_getI C 21 (k := 0) in_Round g122 g123 d_Round_settle_105 rfl rfl rfl rfl ?_
          refine e_imul C d_Round_settle_108 ?_
          refine e_iload C d_Round_settle_109 rfl ?_
          refine e_iadd C d_Round_settle_111 ?_
          refine e_iconst C d_Round_settle_112 (v := 0) (by decide) ?_
          refine e_zast C 22 1 d_Round_settle_113 rfl rfl (s * wd + wfh wd h0 k) (by show nI s * v 7 + _ = _; rw [h.2.1, pk_mul, nI_add]) hlt (by omega) rfl ?_
          refine e_iinc C d_Round_settle_114 rfl (nI_1 k) rfl ?_
          refine e_goto C d_Round_settle_117 (tgt := 18) (by decide) ?_
          exact e_lv2 (ih (k + 1) (upd g (s * wd + wfh wd h0 k) 0) (by omega) (by rw [← hf]; simp [rndS, if_neg hne, hl2])) rfl
      have midL : EW X G 7 0 0 69 [(0, .ref (a 21)), (1, .int (nI s)), (2, .int (nI w)), (3, .ref (a 6)), (4, .int (f 22 (s * wd + w))), (5, .int (nI k))] [.int (nI (wfh wd h0 k))] (wR G a v (up2 f 22 g) (S * wd) S V) := by
        refine e_istore C d_Round_settle_69 rfl ?_
        refine e_iload C d_Round_settle_71 rfl ?_
        refine e_iload_n C d_Round_settle_73 rfl ?_
        refine e_icmp_ne C d_Round_settle_74 (tgt := 85) (by decide) (fun h74 => ?_) (fun h74 => ?_)
        · rw [nI_eq (by omega) (by omega)] at h74
          exact e_lv2 (stepL (fun z => h74 z.1)) rfl
        · rw [nI_eq (by omega) (by omega)] at h74
          refine e_iload C d_Round_settle_77 rfl ?_
          refine e_if_ne C d_Round_settle_79 (tgt := 85) (by decide) (fun h79 => ?_) (fun h79 => ?_)
          · have hm2 : mkd f wd s w = true := by simp [mkd]; exact h79
            exact e_lv2 (stepL (fun z => by rw [hm2] at z; exact absurd z.2 (by decide))) rfl
          · have hm2 : mkd f wd s w = false := by simp [mkd]; exact h79
            refine e_goto C d_Round_settle_82 (tgt := 120) (by decide) ?_
            refine settle_end C E h hs hw rfl rfl rfl ⟨rfl, ?_⟩
            rw [← hf]
            simp only [rndS, if_pos (⟨h74, hm2⟩ : wfh wd h0 k = w ∧ mkd f wd s w = false)]
      refine e_iload C d_Round_settle_18 rfl ?_
      refine e_aload_n C d_Round_settle_20 rfl ?_
      refine e_getI C 21 (k := 0) in_Round g122 g123 d_Round_settle_21 rfl rfl rfl rfl ?_
      refine e_top (show _ = nI wd from h.2.1) ?_
      refine e_icmp_ge C d_Round_settle_24 (tgt := 120) (by decide) (fun h24 => ?_) (fun h24 => ?_)
      · exact absurd h24 (nI_ge (by omega) (by omega))
      · skip
        refine e_aload_n C d_Round_settle_27 rfl ?_
        refine e_get C 21 (k := 2) in_Round g140 d_Round_settle_28 rfl rfl rfl rfl ?_
        refine e_iload_n C d_Round_settle_31 rfl ?_
        refine e_iald C 23 0 d_Round_settle_32 rfl rfl s rfl hs (by omega) ?_
        refine e_iload C d_Round_settle_33 rfl ?_
        refine e_iadd C d_Round_settle_35 ?_
        refine e_top (y := nI (h0 + k)) (by show f 23 s + nI k = _; rw [hh]; exact nI_add _ _) ?_
        refine e_aload_n C d_Round_settle_36 rfl ?_
        refine e_getI C 21 (k := 0) in_Round g122 g123 d_Round_settle_37 rfl rfl rfl rfl ?_
        refine e_top (show _ = nI wd from h.2.1) ?_
        refine e_icmp_ge C d_Round_settle_40 (tgt := 55) (by decide) (fun h40 => ?_) (fun h40 => ?_)
        · rw [nI_leI (by omega) (by omega)] at h40
          rw [show wfh wd h0 k = h0 + k - wd by simp only [wfh, if_neg (show ¬ h0 + k < wd by omega)]] at midL
          refine e_aload_n C d_Round_settle_55 rfl ?_
          refine e_get C 21 (k := 2) in_Round g140 d_Round_settle_56 rfl rfl rfl rfl ?_
          refine e_iload_n C d_Round_settle_59 rfl ?_
          refine e_iald C 23 0 d_Round_settle_60 rfl rfl s rfl hs (by omega) ?_
          refine e_iload C d_Round_settle_61 rfl ?_
          refine e_iadd C d_Round_settle_63 ?_
          refine e_top (y := nI (h0 + k)) (by show f 23 s + nI k = _; rw [hh]; exact nI_add _ _) ?_
          refine e_aload_n C d_Round_settle_64 rfl ?_
          refine e_getI C 21 (k := 0) in_Round g122 g123 d_Round_settle_65 rfl rfl rfl rfl ?_
          refine e_top (show _ = nI wd from h.2.1) ?_
          refine e_isub C d_Round_settle_68 ?_
          refine e_top (pk_sub h40) ?_
          exact e_lv2 midL rfl
        · rw [nI_leI (by omega) (by omega)] at h40
          rw [show wfh wd h0 k = h0 + k by simp only [wfh, if_pos (show h0 + k < wd by omega)]] at midL
          refine e_aload_n C d_Round_settle_43 rfl ?_
          refine e_get C 21 (k := 2) in_Round g140 d_Round_settle_44 rfl rfl rfl rfl ?_
          refine e_iload_n C d_Round_settle_47 rfl ?_
          refine e_iald C 23 0 d_Round_settle_48 rfl rfl s rfl hs (by omega) ?_
          refine e_iload C d_Round_settle_49 rfl ?_
          refine e_iadd C d_Round_settle_51 ?_
          refine e_top (y := nI (h0 + k)) (by show f 23 s + nI k = _; rw [hh]; exact nI_add _ _) ?_
          refine e_goto C d_Round_settle_52 (tgt := 69) (by decide) ?_
          exact e_lv2 midL rfl
  refine e_eq (ws' := wR G a v (up2 f 22 (f 22)) (S * wd) S V) rfl ?_
  exact e_lv2 (L wd 0 (f 22) (by omega) rfl) rfl
end RoundRows
