/-! THE REST OF A DIVISION -/
theorem tmod_b (x : Int) {n : Nat} (h : 1 ≤ n) : -(n : Int) < x.tmod n ∧ x.tmod n < n := by
  have b1 := Int.tmod_lt_of_pos x (show (0 : Int) < n by omega)
  have b2 := Int.tmod_lt_of_pos (-x) (show (0 : Int) < n by omega)
  rw [Int.neg_tmod] at b2
  omega
theorem i32_eq {x y : Int32} (h : x.toInt = y.toInt) : x = y := Int32.toInt_inj.mp h
theorem i32_nn {x : Int32} : 0 ≤ x ↔ 0 ≤ x.toInt := by rw [Int32.le_iff_toInt_le]; exact Iff.rfl
theorem xor_nn {x : Int32} {n : Nat} (h : n < 2 ^ 31) : 0 ≤ x ^^^ nI n ↔ 0 ≤ x.toInt := by
  rw [i32_nn]
  have hn : (nI n).toBitVec.msb = false := by
    have h1 := nI_toInt h
    rw [BitVec.msb_eq_toInt, decide_eq_false_iff_not]
    show ¬ (nI n).toInt < 0
    omega
  show 0 ≤ (x ^^^ nI n).toBitVec.toInt ↔ 0 ≤ x.toBitVec.toInt
  have key : ∀ b : BitVec 32, 0 ≤ b.toInt ↔ b.msb = false := fun b => by rw [BitVec.msb_eq_toInt, decide_eq_false_iff_not]; omega
  rw [key, key, Int32.toBitVec_xor, BitVec.msb_xor, hn, Bool.xor_false]
theorem add_int {x : Int32} {n : Nat} (h : n < 2 ^ 20) (h1 : -(2 : Int) ^ 20 ≤ x.toInt) (h2 : x.toInt ≤ 2 ^ 20) : (x + nI n).toInt = x.toInt + n := by
  rw [Int32.toInt_add, nI_toInt (by omega)]
  exact Int.bmod_eq_of_le (by omega) (by omega)
theorem rm_a {x : Int32} {n : Nat} (h1 : 2 ≤ n) (h2 : n < 2 ^ 20) (h : 0 ≤ x.toInt) : x - x / nI n * nI n = nI (mdN x n) := by
  refine i32_eq ?_
  have hl := mdN_lt (x := x) (n := n) (by omega)
  rw [rmI_int x h1 h2, nI_toInt (by omega), mdN_tmod x h1, if_pos (Int.tmod_nonneg _ h)]
theorem rm_b {x : Int32} {n : Nat} (h1 : 2 ≤ n) (h2 : n < 2 ^ 20) (h : x - x / nI n * nI n = 0) : x - x / nI n * nI n = nI (mdN x n) := by
  refine i32_eq ?_
  have hl := mdN_lt (x := x) (n := n) (by omega)
  have h3 := rmI_int x h1 h2
  rw [h] at h3
  have h4 : (0 : Int) = x.toInt.tmod n := h3
  rw [rmI_int x h1 h2, nI_toInt (by omega), mdN_tmod x h1, if_pos (by omega)]
theorem rm_c {x : Int32} {n : Nat} (h1 : 2 ≤ n) (h2 : n < 2 ^ 20) (h : ¬ 0 ≤ x.toInt) (h0 : ¬ x - x / nI n * nI n = 0) : x - x / nI n * nI n + nI n = nI (mdN x n) := by
  refine i32_eq ?_
  have hl := mdN_lt (x := x) (n := n) (by omega)
  have hr := rmI_int x h1 h2
  have hb := tmod_b x.toInt (n := n) (by omega)
  rw [add_int h2 (by rw [hr]; omega) (by rw [hr]; omega), hr, nI_toInt (by omega), mdN_tmod x h1]
  have h3 : x.toInt.tmod n ≤ 0 := by
    have := Int.tmod_nonneg (n : Int) (show 0 ≤ -x.toInt by omega)
    rw [Int.neg_tmod] at this
    omega
  have h4 : x.toInt.tmod n ≠ 0 := fun e => h0 (i32_eq (by rw [hr, e]; rfl))
  rw [if_neg (by omega)]
theorem rm_d {x : Int32} {n : Nat} (h1 : 2 ≤ n) (h2 : n < 2 ^ 19) : (x - x / nI n * nI n + nI n) - (x - x / nI n * nI n + nI n) / nI n * nI n = nI (mdN x n) := by
  refine i32_eq ?_
  have hl := mdN_lt (x := x) (n := n) (by omega)
  have hr := rmI_int x h1 (by omega)
  have hb := tmod_b x.toInt (n := n) (by omega)
  rw [rmI_int _ h1 (by omega), add_int (by omega) (by rw [hr]; omega) (by rw [hr]; omega), hr, nI_toInt (by omega), mdN_tmod x h1]
  generalize x.toInt.tmod n = t at *
  rw [Int.tmod_eq_emod_of_nonneg (by omega)]
  split
  · rw [Int.add_emod_right]
    exact Int.emod_eq_of_lt (by omega) (by omega)
  · exact Int.emod_eq_of_lt (by omega) (by omega)
/-- a method whose class is not plainly named, but no entry runs in its place -/
theorem metF {l : Launch} {y : MethodName} {ws ws' : List Cond} {rm : Room} {Pc : Array Value → State → Prop} {Qc : Array Value → State → Outcome → State → Prop} {mc ms : Nat} {free : Addr → Prop} {cc : ByteArray} {maxL : Nat} {ret : Option FieldType}
    (hy : plainFor y = true) (hw : ws = Cond.code y cc maxL ret :: ws')
    (body : ∀ p e s m args below meth c s₁, BodyLoose p l y (headSpec ws rm) cc maxL ret e s m args below meth c s₁ → c.maxLocals = maxL → Pc args s →
      W p l e (headSpec ws rm).room s m args below meth c s.heap [] 0 0 (MQ below Qc args s mc ms free) (entryFrame m args maxL)) : Met l y ws rm Pc Qc mc ms free := by
  refine MetFree.of_bodySF (code := cc) (maxLocals := maxL) (ret := ret) hy (fun args s m h hn => ?_) (fun p e s m args below meth c s₁ Bd hml hP _ => ?_)
  · obtain ⟨meth, c, h1, h2, h3, h4, h5, h6, -⟩ := Cond.code_spec hn (atoms_spec (ws := ws) h _ (by rw [hw]; exact List.mem_cons_self))
    exact ⟨meth, c, h1, h2, h3, h4, h5, h6⟩
  · obtain ⟨t, a1, o, b1, b2, b3⟩ := body p e s m args below meth c s₁ Bd hml hP s₁ (by rw [Bd.state]; rfl) (Stand.of_body Bd)
    exact ⟨t, o, a1, b1, b2, ⟨b3.1, b3.2⟩⟩
theorem Con.ofF {l : Launch} {G : EG} {y : MethodName} {rm : Room} {As : List Value} {ws : va_W} {B : Option Value → va_W → Prop} {cc : ByteArray} {maxL : Nat} {ret : Option FieldType} (hy : plainFor y = true) (hlen : Nat.ble (lg_sl As).length maxL = true)
    (body : ∀ X : EX, EC X G y.cls cc maxL → ER X G rm.cells rm.slots B ret → X.R = rm → X.l = l → X.meth.name = y.name → EW X G maxL 0 0 0 (lv_args 0 As) [] ws) : Con l G y cc maxL ret rm As ws B := by
  intro sz
  refine metF (cc := cc) (maxL := maxL) (ret := ret) hy rfl ?_
  intro p e s m args below meth c s₁ Bd hml hv
  obtain ⟨rfl, hsz, hP, hK, hD0⟩ := hv
  subst hsz
  have hl := lv_entry As (n := maxL) (Nat.le_of_ble_eq_true hlen)
  rw [lg_entry_eq]
  have hts := atoms_spec (ws := Cond.code y cc maxL ret :: GT) Bd.pre
  exact body (p, l, e, rm, s, m, As.toArray, below, meth, c, s.heap, va_A ws s.heap.size, MQ below (ePost G B (va_A ws s.heap.size)) As.toArray s rm.cells rm.slots (va_A ws s.heap.size))
    ⟨Bd.exec, Bd.bytes, hml, findClass_of_methodNamed Bd.named, fun w h => hts w (List.mem_cons_of_mem _ h), hK, fun q h => Or.inr h⟩ ⟨rfl, Bd.returns, Bd.notSynchronized, rfl⟩ rfl rfl (name_of_methodNamed Bd.named Bd.method).1 s.heap [] _ hP (hD0.self) va_S.rf hl
theorem ey_Math_floorMod : eY y_Math_floorMod 2 = true := by decide +kernel
theorem d_Math_floorMod_0 : decode c_Math_floorMod 0 = .ok (.iload_n 0, 1) := by decide +kernel
theorem d_Math_floorMod_1 : decode c_Math_floorMod 1 = .ok (.iload_n 1, 1) := by decide +kernel
theorem d_Math_floorMod_2 : decode c_Math_floorMod 2 = .ok (.irem, 1) := by decide +kernel
theorem d_Math_floorMod_3 : decode c_Math_floorMod 3 = .ok (.istore_n 2, 1) := by decide +kernel
theorem d_Math_floorMod_4 : decode c_Math_floorMod 4 = .ok (.iload_n 0, 1) := by decide +kernel
theorem d_Math_floorMod_5 : decode c_Math_floorMod 5 = .ok (.iload_n 1, 1) := by decide +kernel
theorem d_Math_floorMod_6 : decode c_Math_floorMod 6 = .ok (.ixor, 1) := by decide +kernel
theorem d_Math_floorMod_7 : decode c_Math_floorMod 7 = .ok (.ifCond .ge 11, 3) := by decide +kernel
theorem d_Math_floorMod_10 : decode c_Math_floorMod 10 = .ok (.iload_n 2, 1) := by decide +kernel
theorem d_Math_floorMod_11 : decode c_Math_floorMod 11 = .ok (.ifCond .eq 7, 3) := by decide +kernel
theorem d_Math_floorMod_14 : decode c_Math_floorMod 14 = .ok (.iload_n 2, 1) := by decide +kernel
theorem d_Math_floorMod_15 : decode c_Math_floorMod 15 = .ok (.iload_n 1, 1) := by decide +kernel
theorem d_Math_floorMod_16 : decode c_Math_floorMod 16 = .ok (.iadd, 1) := by decide +kernel
theorem d_Math_floorMod_17 : decode c_Math_floorMod 17 = .ok (.ireturn, 1) := by decide +kernel
theorem d_Math_floorMod_18 : decode c_Math_floorMod 18 = .ok (.iload_n 2, 1) := by decide +kernel
theorem d_Math_floorMod_19 : decode c_Math_floorMod 19 = .ok (.ireturn, 1) := by decide +kernel
theorem ey_M_modulo : eY y_M_modulo 2 = true := by decide +kernel
theorem d_M_modulo_0 : decode c_M_modulo 0 = .ok (.iload_n 0, 1) := by decide +kernel
theorem d_M_modulo_1 : decode c_M_modulo 1 = .ok (.iload_n 1, 1) := by decide +kernel
theorem d_M_modulo_2 : decode c_M_modulo 2 = .ok (.irem, 1) := by decide +kernel
theorem d_M_modulo_3 : decode c_M_modulo 3 = .ok (.iload_n 1, 1) := by decide +kernel
theorem d_M_modulo_4 : decode c_M_modulo 4 = .ok (.iadd, 1) := by decide +kernel
theorem d_M_modulo_5 : decode c_M_modulo 5 = .ok (.iload_n 1, 1) := by decide +kernel
theorem d_M_modulo_6 : decode c_M_modulo 6 = .ok (.irem, 1) := by decide +kernel
theorem d_M_modulo_7 : decode c_M_modulo 7 = .ok (.ireturn, 1) := by decide +kernel
section MD
variable {l : Launch} {G : EG} {ws : va_W}
set_option maxRecDepth 100000 in
theorem k_floorMod {x : Int32} {n : Nat} (h1 : 2 ≤ n) (h2 : n < 2 ^ 20) : Con l G y_Math_floorMod c_Math_floorMod 3 (some .int) (rz 0 0) [.int x, .int (nI n)] ws (DI (nI (mdN x n)) ws) := by
  refine Con.ofF (by decide +kernel) rfl (fun X C E hR hl hn => ?_)
  refine e_iload_n C d_Math_floorMod_0 rfl ?_
  refine e_iload_n C d_Math_floorMod_1 rfl ?_
  refine e_irem C d_Math_floorMod_2 (nI_ne0 (by omega) (by omega)) ?_
  refine e_istore_n C d_Math_floorMod_3 rfl ?_
  refine e_iload_n C d_Math_floorMod_4 rfl ?_
  refine e_iload_n C d_Math_floorMod_5 rfl ?_
  refine e_ixor C d_Math_floorMod_6 ?_
  refine e_if_ge C d_Math_floorMod_7 (tgt := 18) (by decide) (fun h7 => ?_) (fun h7 => ?_)
  · refine e_lv [(2, .int (x - x / nI n * nI n))] rfl ?_
    refine e_iload_n C d_Math_floorMod_18 rfl ?_
    refine e_top (rm_a h1 h2 ((xor_nn (by omega)).mp h7)) ?_
    exact e_iret C E d_Math_floorMod_19 (Nat.le_refl _) (Nat.le_refl _) rfl ⟨rfl, rfl⟩
  · have hx : ¬ 0 ≤ x.toInt := fun e => h7 ((xor_nn (by omega)).mpr e)
    refine e_iload_n C d_Math_floorMod_10 rfl ?_
    refine e_if_eq C d_Math_floorMod_11 (tgt := 18) (by decide) (fun h11 => ?_) (fun h11 => ?_)
    · skip
      refine e_iload_n C d_Math_floorMod_18 rfl ?_
      refine e_top (rm_b h1 h2 h11) ?_
      exact e_iret C E d_Math_floorMod_19 (Nat.le_refl _) (Nat.le_refl _) rfl ⟨rfl, rfl⟩
    · skip
      refine e_iload_n C d_Math_floorMod_14 rfl ?_
      refine e_iload_n C d_Math_floorMod_15 rfl ?_
      refine e_iadd C d_Math_floorMod_16 ?_
      refine e_top (rm_c h1 h2 hx h11) ?_
      exact e_iret C E d_Math_floorMod_17 (Nat.le_refl _) (Nat.le_refl _) rfl ⟨rfl, rfl⟩
set_option maxRecDepth 100000 in
theorem k_modulo {x : Int32} {n : Nat} (h1 : 2 ≤ n) (h2 : n < 2 ^ 19) : Con l G y_M_modulo c_M_modulo 2 (some .int) (rz 0 0) [.int x, .int (nI n)] ws (DI (nI (mdN x n)) ws) := by
  refine Con.of rfl rfl (fun X C E hR hl hn => ?_)
  refine e_iload_n C d_M_modulo_0 rfl ?_
  refine e_iload_n C d_M_modulo_1 rfl ?_
  refine e_irem C d_M_modulo_2 (nI_ne0 (by omega) (by omega)) ?_
  refine e_iload_n C d_M_modulo_3 rfl ?_
  refine e_iadd C d_M_modulo_4 ?_
  refine e_iload_n C d_M_modulo_5 rfl ?_
  refine e_irem C d_M_modulo_6 (nI_ne0 (by omega) (by omega)) ?_
  refine e_top (rm_d h1 h2) ?_
  exact e_iret C E d_M_modulo_7 (Nat.le_refl _) (Nat.le_refl _) rfl ⟨rfl, rfl⟩
end MD
