/-! RULEOF AND THE GREAT CONSTRUCTORS, by program -/
section EVC2
variable {X : EX} {G : EG} {own : String} {cc : ByteArray} {nL cells slots pc mc ms : Nat} {lv : List (Nat × Value)} {st : List Value} {ws : va_W} {B : Option Value → va_W → Prop}
/-- a static call that needs none of the cells -/
theorem e_cSn (C : EC X G own cc nL) {Rm : Room} (hX : X.R = Rm) {y : MethodName} {fr ce sl lo : Nat} {As : List Value} {bytes : ByteArray} {maxL index : Nat} {ret : Option FieldType} {st0 : List Value}
    (hM : Con X.l G y bytes maxL ret (rc fr ce sl lo) As [] B) (hc : Cond.code y bytes maxL ret ∈ GT) (hi : Cond.initialized y.cls ∈ GT) (hl : Cond.methodLink own index y ∈ GT) (hsta : Cond.static y ∈ GT) (hd : decode cc pc = .ok (.invokestatic index, 3)) (hst : st0 = As.reverse ++ st) (hy : eY y As.length = true) (hR : eR (rc fr ce sl lo) Rm maxL = true) (hs : Nat.ble (st.map fun v : Value => v.category).sum 8 = true) (h1 : cells + ce ≤ Rm.cells) (h2 : slots + sl ≤ Rm.slots)
    (kk : ∀ (r : Option Value) (u : va_W), B r u → EW X G nL (cells + ce) (slots + sl) (pc + 3) lv (r.toList ++ st) (u ++ ws)) : EW X G nL cells slots pc lv st0 ws := by
  subst hst
  exact e_callS (wc := []) (wr := ws) C As hM hc hi hl hsta hd hy (by rw [hX]; exact hR) hs ⟨by rw [hX]; exact h1, by rw [hX]; exact h2⟩ kk
/-- the same cells in any order -/
theorem e_prm {ws' : va_W} (h : ws.Perm ws') (k : EW X G nL cells slots pc lv st ws') : EW X G nL cells slots pc lv st ws := by
  intro H locs ls hP hD hS hl
  have hm : ∀ {j : Nat} {q : Nat × va_E}, ws'[j]? = some q → ∃ i, ws[i]? = some q := fun hj => List.getElem?_of_mem (h.mem_iff.mpr (List.mem_of_getElem? hj))
  have nd : (ws.map (·.1)).Nodup := by
    rw [List.Nodup, List.pairwise_iff_getElem]
    intro i j hi hj hij e
    rw [List.length_map] at hi hj
    rw [List.getElem_map, List.getElem_map] at e
    have := hD.1 i j _ _ (List.getElem?_eq_getElem hi) (List.getElem?_eq_getElem hj) e
    omega
  have nd' : (ws'.map (·.1)).Nodup := (h.map _).nodup_iff.mp nd
  refine k H locs ls (fun j q hj => ?_) ⟨fun i j p q hi hj e => ?_, fun j q hj => ?_⟩ hS hl
  · obtain ⟨i, hi⟩ := hm hj
    exact hP i q hi
  · refine (List.getElem?_inj (l := ws'.map (·.1)) (by rw [List.length_map]; exact (List.getElem?_eq_some_iff.mp hi).1) nd').mp ?_
    rw [List.getElem?_map, List.getElem?_map, hi, hj]
    exact congrArg some e
  · obtain ⟨i, hi⟩ := hm hj
    exact hD.2 i q hi
end EVC2
/-- the class's numbers at first -/
def c0V (S wd V kd : Nat) : Nat → Int32 := fun k => match k with
  | 1 => 1
  | 6 => nI S
  | 7 => nI wd
  | 8 => nI (S * wd)
  | 9 => nI V
  | 16 => if kd = 6 then nI (lvN wd) else nI kd
  | 19 => 1
  | _ => 0
def c0S (S wd V kd : Nat) : CS := (c0V S wd V kd, fun _ _ => 0)
/-- the reference's -/
def m0V (S wd V kd : Nat) : Nat → Int32 := fun k => match k with
  | 1 => nI S
  | 2 => nI wd
  | 3 => nI kd
  | 4 => nI V
  | 6 => 1
  | 20 => 1
  | _ => 0
def m0S (S wd V kd : Nat) : CS := (m0V S wd V kd, fun _ _ => 0)
theorem rW_a {G : EG} {a a' : Nat → Nat} (h : ∀ k, 21 ≤ k → a k = a' k) (v : Nat → Int32) (f : Nat → Nat → Int32) (n S kd : Nat) : rW G a v f n S kd = rW G a' v f n S kd := by
  have h1 := h 21 (by omega)
  have h2 := h 22 (by omega)
  have h3 := h 23 (by omega)
  have h4 := h 24 (by omega)
  unfold rW
  split <;> simp only [rChance, rRound, rTree, rLately, rAge, rTime, h1, h2, h3, h4]
theorem i_shl {k : Nat} (h : k < 5) : (1 : Int32) <<< (nI k &&& 31) = nI (2 ^ k) := by
  revert k
  decide +kernel
theorem mdN_2k (x : Int32) : mdN x 8 = x.toBitVec.toNat % 2 ^ 3 := by
  unfold mdN
  show (x.toBitVec.toInt % 8).toNat = _
  have := x.toBitVec.isLt
  rw [BitVec.toInt_eq_toNat_cond]
  split <;> omega
theorem i_and7 (x : Int32) : x &&& 7 = nI (mdN x 8) := by
  rw [mdN_2k]
  exact pk_and x 3 rfl
theorem ey_C_ruleOf : eY y_C_ruleOf 3 = true := by decide +kernel
theorem d_C_ruleOf_0 : decode c_C_ruleOf 0 = .ok (.iload_n 0, 1) := by decide +kernel
theorem d_C_ruleOf_1 : decode c_C_ruleOf 1 = .ok (.tableswitch 88 3 8 #[39, 88, 48, 58, 68, 78], 39) := by decide +kernel
theorem d_C_ruleOf_40 : decode c_C_ruleOf 40 = .ok (.new 66, 3) := by decide +kernel
theorem d_C_ruleOf_43 : decode c_C_ruleOf 43 = .ok (.dup, 1) := by decide +kernel
theorem d_C_ruleOf_44 : decode c_C_ruleOf 44 = .ok (.iload_n 2, 1) := by decide +kernel
theorem d_C_ruleOf_45 : decode c_C_ruleOf 45 = .ok (.invokespecial 68, 3) := by decide +kernel
theorem d_C_ruleOf_48 : decode c_C_ruleOf 48 = .ok (.areturn, 1) := by decide +kernel
theorem d_C_ruleOf_49 : decode c_C_ruleOf 49 = .ok (.new 69, 3) := by decide +kernel
theorem d_C_ruleOf_52 : decode c_C_ruleOf 52 = .ok (.dup, 1) := by decide +kernel
theorem d_C_ruleOf_53 : decode c_C_ruleOf 53 = .ok (.iload_n 1, 1) := by decide +kernel
theorem d_C_ruleOf_54 : decode c_C_ruleOf 54 = .ok (.iload_n 2, 1) := by decide +kernel
theorem d_C_ruleOf_55 : decode c_C_ruleOf 55 = .ok (.invokespecial 71, 3) := by decide +kernel
theorem d_C_ruleOf_58 : decode c_C_ruleOf 58 = .ok (.areturn, 1) := by decide +kernel
theorem d_C_ruleOf_59 : decode c_C_ruleOf 59 = .ok (.new 72, 3) := by decide +kernel
theorem d_C_ruleOf_62 : decode c_C_ruleOf 62 = .ok (.dup, 1) := by decide +kernel
theorem d_C_ruleOf_63 : decode c_C_ruleOf 63 = .ok (.iload_n 1, 1) := by decide +kernel
theorem d_C_ruleOf_64 : decode c_C_ruleOf 64 = .ok (.iload_n 2, 1) := by decide +kernel
theorem d_C_ruleOf_65 : decode c_C_ruleOf 65 = .ok (.invokespecial 74, 3) := by decide +kernel
theorem d_C_ruleOf_68 : decode c_C_ruleOf 68 = .ok (.areturn, 1) := by decide +kernel
theorem d_C_ruleOf_69 : decode c_C_ruleOf 69 = .ok (.new 75, 3) := by decide +kernel
theorem d_C_ruleOf_72 : decode c_C_ruleOf 72 = .ok (.dup, 1) := by decide +kernel
theorem d_C_ruleOf_73 : decode c_C_ruleOf 73 = .ok (.iload_n 1, 1) := by decide +kernel
theorem d_C_ruleOf_74 : decode c_C_ruleOf 74 = .ok (.iload_n 2, 1) := by decide +kernel
theorem d_C_ruleOf_75 : decode c_C_ruleOf 75 = .ok (.invokespecial 77, 3) := by decide +kernel
theorem d_C_ruleOf_78 : decode c_C_ruleOf 78 = .ok (.areturn, 1) := by decide +kernel
theorem d_C_ruleOf_79 : decode c_C_ruleOf 79 = .ok (.new 78, 3) := by decide +kernel
theorem d_C_ruleOf_82 : decode c_C_ruleOf 82 = .ok (.dup, 1) := by decide +kernel
theorem d_C_ruleOf_83 : decode c_C_ruleOf 83 = .ok (.iload_n 1, 1) := by decide +kernel
theorem d_C_ruleOf_84 : decode c_C_ruleOf 84 = .ok (.iload_n 2, 1) := by decide +kernel
theorem d_C_ruleOf_85 : decode c_C_ruleOf 85 = .ok (.invokespecial 80, 3) := by decide +kernel
theorem d_C_ruleOf_88 : decode c_C_ruleOf 88 = .ok (.areturn, 1) := by decide +kernel
theorem d_C_ruleOf_89 : decode c_C_ruleOf 89 = .ok (.new 81, 3) := by decide +kernel
theorem d_C_ruleOf_92 : decode c_C_ruleOf 92 = .ok (.dup, 1) := by decide +kernel
theorem d_C_ruleOf_93 : decode c_C_ruleOf 93 = .ok (.iload_n 0, 1) := by decide +kernel
theorem d_C_ruleOf_94 : decode c_C_ruleOf 94 = .ok (.iload_n 1, 1) := by decide +kernel
theorem d_C_ruleOf_95 : decode c_C_ruleOf 95 = .ok (.iload_n 2, 1) := by decide +kernel
theorem d_C_ruleOf_96 : decode c_C_ruleOf 96 = .ok (.invokespecial 83, 3) := by decide +kernel
theorem d_C_ruleOf_99 : decode c_C_ruleOf 99 = .ok (.areturn, 1) := by decide +kernel
set_option maxRecDepth 100000 in
theorem k_ruleOf {l : Launch} {G : EG} {S wd V kd : Nat} (h : S * wd ≤ 128) (h2 : S ≤ 16) (hw : wd ≤ 8) (hk : kd < 10) : Con l G y_C_ruleOf c_C_ruleOf 3 (some (.object "CacheRules$Rule")) (rc 3 4 391 64) [.int (nI kd), .int (nI S), .int (nI wd)] [] (fun r u => ∃ a : Nat → Nat, r = some (.ref (a 21)) ∧ u = rW G a (c0V S wd V kd) (fun _ _ => 0) (S * wd) S kd) := by
  refine Con.of rfl rfl (fun X C E hR hl hn => ?_)
  rcases kd_cases hk with rfl | rfl | rfl | rfl | rfl | rfl | rfl | rfl | rfl | rfl
  · skip
    refine e_iload_n C d_C_ruleOf_0 rfl ?_
    refine e_tableIn C d_C_ruleOf_1 (off := 39) (by decide) (by decide) (by decide) (tgt := 40) (by decide) ?_
    refine e_new C (ci := 6) [.int 0, .int 0] in_Chance tk_Chance g105 g106 g6 d_C_ruleOf_40 rfl (by decide) (by rw [hR]; show _ ≤ 4; omega) (by rw [hR]; show _ ≤ 391; omega) (fun q1 => ?_)
    refine e_dup C d_C_ruleOf_43 rfl ?_
    refine e_iload_n C d_C_ruleOf_44 rfl ?_
    refine e_eq (ws' := [(q1, ob 6 [.int 0, .int 0])]) rfl ?_
    refine e_cI (wr := []) C hR k_Chance_init g109 g6 g107 g108 d_C_ruleOf_45 rfl rfl ey_Chance_init rfl rfl rfl (by show _ ≤ 4; omega) (by show _ ≤ 391; omega) (fun r u hB => ?_)
    obtain ⟨rfl, rfl⟩ := hB
    refine e_st (st' := [.ref q1]) rfl ?_
    exact e_aret C E d_C_ruleOf_48 (Or.inl ⟨_, rfl⟩) (by show _ ≤ 4; omega) (by show _ ≤ 391; omega) ⟨fun k => ([q1] : List Nat).getD (k - 21) 0, rfl, rfl⟩
  · skip
    refine e_iload_n C d_C_ruleOf_0 rfl ?_
    refine e_tableIn C d_C_ruleOf_1 (off := 48) (by decide) (by decide) (by decide) (tgt := 49) (by decide) ?_
    refine e_new C (ci := 7) [.int 0, .null, .null] in_Round tk_Round g133 g134 g7 d_C_ruleOf_49 rfl (by decide) (by rw [hR]; show _ ≤ 4; omega) (by rw [hR]; show _ ≤ 391; omega) (fun q1 => ?_)
    refine e_dup C d_C_ruleOf_52 rfl ?_
    refine e_iload_n C d_C_ruleOf_53 rfl ?_
    refine e_iload_n C d_C_ruleOf_54 rfl ?_
    refine e_eq (ws' := [(q1, ob 7 [.int 0, .null, .null])]) rfl ?_
    refine e_cI (wr := []) C hR (k_Round_init h h2) g137 g7 g135 g136 d_C_ruleOf_55 rfl rfl ey_Round_init rfl rfl rfl (by show _ ≤ 4; omega) (by show _ ≤ 391; omega) (fun r u hB => ?_)
    obtain ⟨rfl, p0, p1, rfl⟩ := hB
    refine e_st (st' := [.ref q1]) rfl ?_
    exact e_aret C E d_C_ruleOf_58 (Or.inl ⟨_, rfl⟩) (by show _ ≤ 4; omega) (by show _ ≤ 391; omega) ⟨fun k => ([q1, p0, p1] : List Nat).getD (k - 21) 0, rfl, rfl⟩
  · skip
    refine e_iload_n C d_C_ruleOf_0 rfl ?_
    refine e_tableIn C d_C_ruleOf_1 (off := 58) (by decide) (by decide) (by decide) (tgt := 59) (by decide) ?_
    refine e_new C (ci := 8) [.int 0, .int 0, .null] in_Tree tk_Tree g147 g148 g8 d_C_ruleOf_59 rfl (by decide) (by rw [hR]; show _ ≤ 4; omega) (by rw [hR]; show _ ≤ 391; omega) (fun q1 => ?_)
    refine e_dup C d_C_ruleOf_62 rfl ?_
    refine e_iload_n C d_C_ruleOf_63 rfl ?_
    refine e_iload_n C d_C_ruleOf_64 rfl ?_
    refine e_eq (ws' := [(q1, ob 8 [.int 0, .int 0, .null])]) rfl ?_
    refine e_cI (wr := []) C hR (k_Tree_init h2 hw) g151 g8 g149 g150 d_C_ruleOf_65 rfl rfl ey_Tree_init rfl rfl rfl (by show _ ≤ 4; omega) (by show _ ≤ 391; omega) (fun r u hB => ?_)
    obtain ⟨rfl, p0, rfl⟩ := hB
    refine e_st (st' := [.ref q1]) rfl ?_
    exact e_aret C E d_C_ruleOf_68 (Or.inl ⟨_, rfl⟩) (by show _ ≤ 4; omega) (by show _ ≤ 391; omega) ⟨fun k => ([q1, p0] : List Nat).getD (k - 21) 0, rfl, rfl⟩
  · skip
    refine e_iload_n C d_C_ruleOf_0 rfl ?_
    refine e_tableIn C d_C_ruleOf_1 (off := 68) (by decide) (by decide) (by decide) (tgt := 69) (by decide) ?_
    refine e_new C (ci := 9) [.int 0, .null] in_Lately tk_Lately g161 g162 g9 d_C_ruleOf_69 rfl (by decide) (by rw [hR]; show _ ≤ 4; omega) (by rw [hR]; show _ ≤ 391; omega) (fun q1 => ?_)
    refine e_dup C d_C_ruleOf_72 rfl ?_
    refine e_iload_n C d_C_ruleOf_73 rfl ?_
    refine e_iload_n C d_C_ruleOf_74 rfl ?_
    refine e_eq (ws' := [(q1, ob 9 [.int 0, .null])]) rfl ?_
    refine e_cI (wr := []) C hR (k_Lately_init h) g165 g9 g163 g164 d_C_ruleOf_75 rfl rfl ey_Lately_init rfl rfl rfl (by show _ ≤ 4; omega) (by show _ ≤ 391; omega) (fun r u hB => ?_)
    obtain ⟨rfl, p0, rfl⟩ := hB
    refine e_st (st' := [.ref q1]) rfl ?_
    exact e_aret C E d_C_ruleOf_78 (Or.inl ⟨_, rfl⟩) (by show _ ≤ 4; omega) (by show _ ≤ 391; omega) ⟨fun k => ([q1, p0] : List Nat).getD (k - 21) 0, rfl, rfl⟩
  · skip
    refine e_iload_n C d_C_ruleOf_0 rfl ?_
    refine e_tableIn C d_C_ruleOf_1 (off := 78) (by decide) (by decide) (by decide) (tgt := 79) (by decide) ?_
    refine e_new C (ci := 10) [.int 0, .null] in_Age tk_Age g172 g173 g10 d_C_ruleOf_79 rfl (by decide) (by rw [hR]; show _ ≤ 4; omega) (by rw [hR]; show _ ≤ 391; omega) (fun q1 => ?_)
    refine e_dup C d_C_ruleOf_82 rfl ?_
    refine e_iload_n C d_C_ruleOf_83 rfl ?_
    refine e_iload_n C d_C_ruleOf_84 rfl ?_
    refine e_eq (ws' := [(q1, ob 10 [.int 0, .null])]) rfl ?_
    refine e_cI (wr := []) C hR (k_Age_init h) g176 g10 g174 g175 d_C_ruleOf_85 rfl rfl ey_Age_init rfl rfl rfl (by show _ ≤ 4; omega) (by show _ ≤ 391; omega) (fun r u hB => ?_)
    obtain ⟨rfl, p0, rfl⟩ := hB
    refine e_st (st' := [.ref q1]) rfl ?_
    exact e_aret C E d_C_ruleOf_88 (Or.inl ⟨_, rfl⟩) (by show _ ≤ 4; omega) (by show _ ≤ 391; omega) ⟨fun k => ([q1, p0] : List Nat).getD (k - 21) 0, rfl, rfl⟩
  · skip
    refine e_iload_n C d_C_ruleOf_0 rfl ?_
    refine e_tableOut C d_C_ruleOf_1 (by decide) (tgt := 89) (by decide) ?_
    refine e_new C (ci := 5) [.int 0, .int 0, .null, .null, .null, .int 0, .int 0] in_Time tk_Time g183 g184 g11 d_C_ruleOf_89 rfl (by decide) (by rw [hR]; show _ ≤ 4; omega) (by rw [hR]; show _ ≤ 391; omega) (fun q1 => ?_)
    refine e_dup C d_C_ruleOf_92 rfl ?_
    refine e_iload_n C d_C_ruleOf_93 rfl ?_
    refine e_iload_n C d_C_ruleOf_94 rfl ?_
    refine e_iload_n C d_C_ruleOf_95 rfl ?_
    refine e_eq (ws' := [(q1, ob 5 [.int 0, .int 0, .null, .null, .null, .int 0, .int 0])]) rfl ?_
    refine e_cI (wr := []) C hR (k_Time_init h) g187 g11 g185 g186 d_C_ruleOf_96 rfl rfl ey_Time_init rfl rfl rfl (by show _ ≤ 4; omega) (by show _ ≤ 391; omega) (fun r u hB => ?_)
    obtain ⟨rfl, p0, p1, p2, rfl⟩ := hB
    refine e_st (st' := [.ref q1]) rfl ?_
    exact e_aret C E d_C_ruleOf_99 (Or.inl ⟨_, rfl⟩) (by show _ ≤ 4; omega) (by show _ ≤ 391; omega) ⟨fun k => ([q1, p0, p1, p2] : List Nat).getD (k - 21) 0, rfl, rfl⟩
  · skip
    refine e_iload_n C d_C_ruleOf_0 rfl ?_
    refine e_tableOut C d_C_ruleOf_1 (by decide) (tgt := 89) (by decide) ?_
    refine e_new C (ci := 5) [.int 0, .int 0, .null, .null, .null, .int 0, .int 0] in_Time tk_Time g183 g184 g11 d_C_ruleOf_89 rfl (by decide) (by rw [hR]; show _ ≤ 4; omega) (by rw [hR]; show _ ≤ 391; omega) (fun q1 => ?_)
    refine e_dup C d_C_ruleOf_92 rfl ?_
    refine e_iload_n C d_C_ruleOf_93 rfl ?_
    refine e_iload_n C d_C_ruleOf_94 rfl ?_
    refine e_iload_n C d_C_ruleOf_95 rfl ?_
    refine e_eq (ws' := [(q1, ob 5 [.int 0, .int 0, .null, .null, .null, .int 0, .int 0])]) rfl ?_
    refine e_cI (wr := []) C hR (k_Time_init h) g187 g11 g185 g186 d_C_ruleOf_96 rfl rfl ey_Time_init rfl rfl rfl (by show _ ≤ 4; omega) (by show _ ≤ 391; omega) (fun r u hB => ?_)
    obtain ⟨rfl, p0, p1, p2, rfl⟩ := hB
    refine e_st (st' := [.ref q1]) rfl ?_
    exact e_aret C E d_C_ruleOf_99 (Or.inl ⟨_, rfl⟩) (by show _ ≤ 4; omega) (by show _ ≤ 391; omega) ⟨fun k => ([q1, p0, p1, p2] : List Nat).getD (k - 21) 0, rfl, rfl⟩
  · skip
    refine e_iload_n C d_C_ruleOf_0 rfl ?_
    refine e_tableOut C d_C_ruleOf_1 (by decide) (tgt := 89) (by decide) ?_
    refine e_new C (ci := 5) [.int 0, .int 0, .null, .null, .null, .int 0, .int 0] in_Time tk_Time g183 g184 g11 d_C_ruleOf_89 rfl (by decide) (by rw [hR]; show _ ≤ 4; omega) (by rw [hR]; show _ ≤ 391; omega) (fun q1 => ?_)
    refine e_dup C d_C_ruleOf_92 rfl ?_
    refine e_iload_n C d_C_ruleOf_93 rfl ?_
    refine e_iload_n C d_C_ruleOf_94 rfl ?_
    refine e_iload_n C d_C_ruleOf_95 rfl ?_
    refine e_eq (ws' := [(q1, ob 5 [.int 0, .int 0, .null, .null, .null, .int 0, .int 0])]) rfl ?_
    refine e_cI (wr := []) C hR (k_Time_init h) g187 g11 g185 g186 d_C_ruleOf_96 rfl rfl ey_Time_init rfl rfl rfl (by show _ ≤ 4; omega) (by show _ ≤ 391; omega) (fun r u hB => ?_)
    obtain ⟨rfl, p0, p1, p2, rfl⟩ := hB
    refine e_st (st' := [.ref q1]) rfl ?_
    exact e_aret C E d_C_ruleOf_99 (Or.inl ⟨_, rfl⟩) (by show _ ≤ 4; omega) (by show _ ≤ 391; omega) ⟨fun k => ([q1, p0, p1, p2] : List Nat).getD (k - 21) 0, rfl, rfl⟩
  · skip
    refine e_iload_n C d_C_ruleOf_0 rfl ?_
    refine e_tableIn C d_C_ruleOf_1 (off := 88) (by decide) (by decide) (by decide) (tgt := 89) (by decide) ?_
    refine e_new C (ci := 5) [.int 0, .int 0, .null, .null, .null, .int 0, .int 0] in_Time tk_Time g183 g184 g11 d_C_ruleOf_89 rfl (by decide) (by rw [hR]; show _ ≤ 4; omega) (by rw [hR]; show _ ≤ 391; omega) (fun q1 => ?_)
    refine e_dup C d_C_ruleOf_92 rfl ?_
    refine e_iload_n C d_C_ruleOf_93 rfl ?_
    refine e_iload_n C d_C_ruleOf_94 rfl ?_
    refine e_iload_n C d_C_ruleOf_95 rfl ?_
    refine e_eq (ws' := [(q1, ob 5 [.int 0, .int 0, .null, .null, .null, .int 0, .int 0])]) rfl ?_
    refine e_cI (wr := []) C hR (k_Time_init h) g187 g11 g185 g186 d_C_ruleOf_96 rfl rfl ey_Time_init rfl rfl rfl (by show _ ≤ 4; omega) (by show _ ≤ 391; omega) (fun r u hB => ?_)
    obtain ⟨rfl, p0, p1, p2, rfl⟩ := hB
    refine e_st (st' := [.ref q1]) rfl ?_
    exact e_aret C E d_C_ruleOf_99 (Or.inl ⟨_, rfl⟩) (by show _ ≤ 4; omega) (by show _ ≤ 391; omega) ⟨fun k => ([q1, p0, p1, p2] : List Nat).getD (k - 21) 0, rfl, rfl⟩
  · skip
    refine e_iload_n C d_C_ruleOf_0 rfl ?_
    refine e_tableOut C d_C_ruleOf_1 (by decide) (tgt := 89) (by decide) ?_
    refine e_new C (ci := 5) [.int 0, .int 0, .null, .null, .null, .int 0, .int 0] in_Time tk_Time g183 g184 g11 d_C_ruleOf_89 rfl (by decide) (by rw [hR]; show _ ≤ 4; omega) (by rw [hR]; show _ ≤ 391; omega) (fun q1 => ?_)
    refine e_dup C d_C_ruleOf_92 rfl ?_
    refine e_iload_n C d_C_ruleOf_93 rfl ?_
    refine e_iload_n C d_C_ruleOf_94 rfl ?_
    refine e_iload_n C d_C_ruleOf_95 rfl ?_
    refine e_eq (ws' := [(q1, ob 5 [.int 0, .int 0, .null, .null, .null, .int 0, .int 0])]) rfl ?_
    refine e_cI (wr := []) C hR (k_Time_init h) g187 g11 g185 g186 d_C_ruleOf_96 rfl rfl ey_Time_init rfl rfl rfl (by show _ ≤ 4; omega) (by show _ ≤ 391; omega) (fun r u hB => ?_)
    obtain ⟨rfl, p0, p1, p2, rfl⟩ := hB
    refine e_st (st' := [.ref q1]) rfl ?_
    exact e_aret C E d_C_ruleOf_99 (Or.inl ⟨_, rfl⟩) (by show _ ≤ 4; omega) (by show _ ≤ 391; omega) ⟨fun k => ([q1, p0, p1, p2] : List Nat).getD (k - 21) 0, rfl, rfl⟩
theorem ey_C_init : eY y_C_init 4 = true := by decide +kernel
theorem d_C_init_0 : decode c_C_init 0 = .ok (.aload_n 0, 1) := by decide +kernel
theorem d_C_init_1 : decode c_C_init 1 = .ok (.invokespecial 1, 3) := by decide +kernel
theorem d_C_init_4 : decode c_C_init 4 = .ok (.iconst 1, 1) := by decide +kernel
theorem d_C_init_5 : decode c_C_init 5 = .ok (.iload_n 1, 1) := by decide +kernel
theorem d_C_init_6 : decode c_C_init 6 = .ok (.iconst 5, 1) := by decide +kernel
theorem d_C_init_7 : decode c_C_init 7 = .ok (.invokestatic 7, 3) := by decide +kernel
theorem d_C_init_10 : decode c_C_init 10 = .ok (.ishl, 1) := by decide +kernel
theorem d_C_init_11 : decode c_C_init 11 = .ok (.istore 5, 2) := by decide +kernel
theorem d_C_init_13 : decode c_C_init 13 = .ok (.iconst 1, 1) := by decide +kernel
theorem d_C_init_14 : decode c_C_init 14 = .ok (.iload_n 2, 1) := by decide +kernel
theorem d_C_init_15 : decode c_C_init 15 = .ok (.iconst 1, 1) := by decide +kernel
theorem d_C_init_16 : decode c_C_init 16 = .ok (.isub, 1) := by decide +kernel
theorem d_C_init_17 : decode c_C_init 17 = .ok (.bipush 8, 2) := by decide +kernel
theorem d_C_init_19 : decode c_C_init 19 = .ok (.invokestatic 7, 3) := by decide +kernel
theorem d_C_init_22 : decode c_C_init 22 = .ok (.iadd, 1) := by decide +kernel
theorem d_C_init_23 : decode c_C_init 23 = .ok (.istore 6, 2) := by decide +kernel
theorem d_C_init_25 : decode c_C_init 25 = .ok (.aload_n 0, 1) := by decide +kernel
theorem d_C_init_26 : decode c_C_init 26 = .ok (.new 13, 3) := by decide +kernel
theorem d_C_init_29 : decode c_C_init 29 = .ok (.dup, 1) := by decide +kernel
theorem d_C_init_30 : decode c_C_init 30 = .ok (.iload 5, 2) := by decide +kernel
theorem d_C_init_32 : decode c_C_init 32 = .ok (.iload 6, 2) := by decide +kernel
theorem d_C_init_34 : decode c_C_init 34 = .ok (.invokespecial 15, 3) := by decide +kernel
theorem d_C_init_37 : decode c_C_init 37 = .ok (.putfield 18, 3) := by decide +kernel
theorem d_C_init_40 : decode c_C_init 40 = .ok (.aload_n 0, 1) := by decide +kernel
theorem d_C_init_41 : decode c_C_init 41 = .ok (.new 24, 3) := by decide +kernel
theorem d_C_init_44 : decode c_C_init 44 = .ok (.dup, 1) := by decide +kernel
theorem d_C_init_45 : decode c_C_init 45 = .ok (.iload 4, 2) := by decide +kernel
theorem d_C_init_47 : decode c_C_init 47 = .ok (.iconst 5, 1) := by decide +kernel
theorem d_C_init_48 : decode c_C_init 48 = .ok (.invokestatic 7, 3) := by decide +kernel
theorem d_C_init_51 : decode c_C_init 51 = .ok (.invokespecial 26, 3) := by decide +kernel
theorem d_C_init_54 : decode c_C_init 54 = .ok (.putfield 29, 3) := by decide +kernel
theorem d_C_init_57 : decode c_C_init 57 = .ok (.aload_n 0, 1) := by decide +kernel
theorem d_C_init_58 : decode c_C_init 58 = .ok (.iload_n 3, 1) := by decide +kernel
theorem d_C_init_59 : decode c_C_init 59 = .ok (.bipush 10, 2) := by decide +kernel
theorem d_C_init_61 : decode c_C_init 61 = .ok (.invokestatic 7, 3) := by decide +kernel
theorem d_C_init_64 : decode c_C_init 64 = .ok (.iload 5, 2) := by decide +kernel
theorem d_C_init_66 : decode c_C_init 66 = .ok (.iload 6, 2) := by decide +kernel
theorem d_C_init_68 : decode c_C_init 68 = .ok (.invokestatic 33, 3) := by decide +kernel
theorem d_C_init_71 : decode c_C_init 71 = .ok (.putfield 37, 3) := by decide +kernel
theorem d_C_init_74 : decode c_C_init 74 = .ok (.aload_n 0, 1) := by decide +kernel
theorem d_C_init_75 : decode c_C_init 75 = .ok (.new 41, 3) := by decide +kernel
theorem d_C_init_78 : decode c_C_init 78 = .ok (.dup, 1) := by decide +kernel
theorem d_C_init_79 : decode c_C_init 79 = .ok (.invokespecial 43, 3) := by decide +kernel
theorem d_C_init_82 : decode c_C_init 82 = .ok (.putfield 44, 3) := by decide +kernel
theorem d_C_init_85 : decode c_C_init 85 = .ok (.aload_n 0, 1) := by decide +kernel
theorem d_C_init_86 : decode c_C_init 86 = .ok (.new 48, 3) := by decide +kernel
theorem d_C_init_89 : decode c_C_init 89 = .ok (.dup, 1) := by decide +kernel
theorem d_C_init_90 : decode c_C_init 90 = .ok (.invokespecial 50, 3) := by decide +kernel
theorem d_C_init_93 : decode c_C_init 93 = .ok (.putfield 51, 3) := by decide +kernel
theorem d_C_init_96 : decode c_C_init 96 = .ok (.aload_n 0, 1) := by decide +kernel
theorem d_C_init_97 : decode c_C_init 97 = .ok (.iconst 5, 1) := by decide +kernel
theorem d_C_init_98 : decode c_C_init 98 = .ok (.newarray .int, 2) := by decide +kernel
theorem d_C_init_100 : decode c_C_init 100 = .ok (.putfield 55, 3) := by decide +kernel
theorem d_C_init_103 : decode c_C_init 103 = .ok (.aload_n 0, 1) := by decide +kernel
theorem d_C_init_104 : decode c_C_init 104 = .ok (.iconst 0, 1) := by decide +kernel
theorem d_C_init_105 : decode c_C_init 105 = .ok (.putfield 59, 3) := by decide +kernel
theorem d_C_init_108 : decode c_C_init 108 = .ok (.aload_n 0, 1) := by decide +kernel
theorem d_C_init_109 : decode c_C_init 109 = .ok (.iconst 1, 1) := by decide +kernel
theorem d_C_init_110 : decode c_C_init 110 = .ok (.putfield 63, 3) := by decide +kernel
theorem d_C_init_113 : decode c_C_init 113 = .ok (.return_, 1) := by decide +kernel
set_option maxRecDepth 100000 in
theorem k_C_init {l : Launch} {G : EG} {b S wd V kd : Nat} {x1 x2 x3 x4 : Int32} (hS : S = 2 ^ mdN x1 5) (hw : wd = 1 + mdN (x2 - 1) 8) (hk : kd = mdN x3 10) (hV : V = mdN x4 5) : Con l G y_C_init c_C_init 7 none (rc 4 24 1269 86) [.ref b, .int x1, .int x2, .int x3, .int x4] [(b, ob 0 [.null, .null, .null, .null, .null, .null, .int 0, .int 0, .int 0, .int 0, .int 0, .int 0])] (fun r u => r = none ∧ ∃ a : Nat → Nat, a 0 = b ∧ u = wK G a (c0S S wd V kd) S wd V kd) := by
  refine Con.of rfl rfl (fun X C E hR hl hn => ?_)
  have hS16 : S ≤ 16 := by rw [hS]; exact Nat.pow_le_pow_right (by decide) (Nat.le_of_lt_succ (mdN_lt (n := 5) (by decide)))
  have hw8 : wd ≤ 8 := by have := mdN_lt (x := x2 - 1) (n := 8) (by decide); omega
  have hV4 : V ≤ 4 := by have := mdN_lt (x := x4) (n := 5) (by decide); omega
  have hk10 : kd < 10 := by rw [hk]; exact mdN_lt (by decide)
  have hn8 : S * wd ≤ 128 := Nat.mul_le_mul hS16 hw8
  refine e_aload_n C d_C_init_0 rfl ?_
  refine e_obj C hR g28 d_C_init_1 rfl ?_
  refine e_iconst C d_C_init_4 (v := 1) (by decide) ?_
  refine e_iload_n C d_C_init_5 rfl ?_
  refine e_iconst C d_C_init_6 (v := nI 5) (by decide) ?_
  refine e_cSi C hR (k_floorMod (by decide) (by decide)) g33 g2 g31 g32 d_C_init_7 rfl ey_Math_floorMod rfl rfl ⟨by rw [hR]; show _ ≤ 24; omega, by rw [hR]; show _ ≤ 1269; omega⟩ ?_
  refine e_ishl C d_C_init_10 ?_
  refine e_top (y := nI S) (by rw [hS]; exact i_shl (mdN_lt (by decide))) ?_
  refine e_istore C d_C_init_11 rfl ?_
  refine e_iconst C d_C_init_13 (v := nI 1) (by decide) ?_
  refine e_iload_n C d_C_init_14 rfl ?_
  refine e_iconst C d_C_init_15 (v := 1) (by decide) ?_
  refine e_isub C d_C_init_16 ?_
  refine e_bipush C d_C_init_17 (v := nI 8) (by decide) ?_
  refine e_cSi C hR (k_floorMod (by decide) (by decide)) g33 g2 g31 g32 d_C_init_19 rfl ey_Math_floorMod rfl rfl ⟨by rw [hR]; show _ ≤ 24; omega, by rw [hR]; show _ ≤ 1269; omega⟩ ?_
  refine e_iadd C d_C_init_22 ?_
  refine e_top (y := nI wd) (by rw [hw]; exact nI_add 1 _) ?_
  refine e_istore C d_C_init_23 rfl ?_
  refine e_aload_n C d_C_init_25 rfl ?_
  refine e_new C (ci := 1) [.int 0, .int 0, .int 0, .null, .null, .null, .null, .null] in_Ways tk_Ways g34 g35 g3 d_C_init_26 rfl (by decide) (by rw [hR]; show _ ≤ 24; omega) (by rw [hR]; show _ ≤ 1269; omega) (fun q1 => ?_)
  refine e_dup C d_C_init_29 rfl ?_
  refine e_iload C d_C_init_30 rfl ?_
  refine e_iload C d_C_init_32 rfl ?_
  refine e_comm ?_
  refine e_cI C hR (k_Ways_init hn8) g38 g3 g36 g37 d_C_init_34 rfl rfl ey_Ways_init rfl rfl rfl (by show _ ≤ 24; omega) (by show _ ≤ 1269; omega) (fun r u hB => ?_)
  obtain ⟨rfl, w0, w1, w2, w3, w4, rfl⟩ := hB
  refine e_st (st' := [.ref q1, .ref b]) rfl ?_
  refine e_comm ?_
  refine e_eq (ws' := [(b, ob 0 [.null, .null, .null, .null, .null, .null, .int 0, .int 0, .int 0, .int 0, .int 0, .int 0]), (q1, ob 1 [.int (nI S), .int (nI wd), .int (nI (S * wd)), .ref w0, .ref w1, .ref w2, .ref w3, .ref w4]), (w0, aI G.2.1 (S * wd) (fun _ => 0)), (w1, aI G.2.2.1 (S * wd) (fun _ => 0)), (w2, aI G.2.1 (S * wd) (fun _ => 0)), (w3, aI G.2.1 (S * wd) (fun _ => 0)), (w4, aI G.2.2.1 (S * wd) (fun _ => 0))]) rfl ?_
  refine e_putF C hn 0 (k := 0) in_C tk_C nm_C g264 d_C_init_37 rfl rfl rfl rfl rfl rfl rfl rfl rfl ?_
  refine e_eq (ws' := [(b, ob 0 [.ref q1, .null, .null, .null, .null, .null, .int 0, .int 0, .int 0, .int 0, .int 0, .int 0]), (q1, ob 1 [.int (nI S), .int (nI wd), .int (nI (S * wd)), .ref w0, .ref w1, .ref w2, .ref w3, .ref w4]), (w0, aI G.2.1 (S * wd) (fun _ => 0)), (w1, aI G.2.2.1 (S * wd) (fun _ => 0)), (w2, aI G.2.1 (S * wd) (fun _ => 0)), (w3, aI G.2.1 (S * wd) (fun _ => 0)), (w4, aI G.2.2.1 (S * wd) (fun _ => 0))]) rfl ?_
  refine e_aload_n C d_C_init_40 rfl ?_
  refine e_new C (ci := 2) [.int 0, .null, .null, .null, .int 0] in_Rows tk_Rows g75 g76 g4 d_C_init_41 rfl (by decide) (by rw [hR]; show _ ≤ 24; omega) (by rw [hR]; show _ ≤ 1269; omega) (fun q2 => ?_)
  refine e_dup C d_C_init_44 rfl ?_
  refine e_iload C d_C_init_45 rfl ?_
  refine e_iconst C d_C_init_47 (v := nI 5) (by decide) ?_
  refine e_cSi C hR (k_floorMod (by decide) (by decide)) g33 g2 g31 g32 d_C_init_48 rfl ey_Math_floorMod rfl rfl ⟨by rw [hR]; show _ ≤ 24; omega, by rw [hR]; show _ ≤ 1269; omega⟩ ?_
  refine e_top (y := nI V) (by rw [hV]) ?_
  refine e_comm ?_
  refine e_cI C hR (k_Rows_init hV4) g79 g4 g77 g78 d_C_init_51 rfl rfl ey_Rows_init rfl rfl rfl (by show _ ≤ 24; omega) (by show _ ≤ 1269; omega) (fun r u hB => ?_)
  obtain ⟨rfl, r0, r1, r2, rfl⟩ := hB
  refine e_st (st' := [.ref q2, .ref b]) rfl ?_
  refine e_comm ?_
  refine e_eq (ws' := [(b, ob 0 [.ref q1, .null, .null, .null, .null, .null, .int 0, .int 0, .int 0, .int 0, .int 0, .int 0]), (q1, ob 1 [.int (nI S), .int (nI wd), .int (nI (S * wd)), .ref w0, .ref w1, .ref w2, .ref w3, .ref w4]), (w0, aI G.2.1 (S * wd) (fun _ => 0)), (w1, aI G.2.2.1 (S * wd) (fun _ => 0)), (w2, aI G.2.1 (S * wd) (fun _ => 0)), (w3, aI G.2.1 (S * wd) (fun _ => 0)), (w4, aI G.2.2.1 (S * wd) (fun _ => 0)), (q2, ob 2 [.int (nI V), .ref r0, .ref r1, .ref r2, .int 0]), (r0, aI G.2.1 (V) (fun _ => 0)), (r1, aI G.2.1 (V) (fun _ => 0)), (r2, aI G.2.1 (V) (fun _ => 0))]) rfl ?_
  refine e_putF C hn 0 (k := 1) in_C tk_C nm_C g265 d_C_init_54 rfl rfl rfl rfl rfl rfl rfl rfl rfl ?_
  refine e_eq (ws' := [(b, ob 0 [.ref q1, .ref q2, .null, .null, .null, .null, .int 0, .int 0, .int 0, .int 0, .int 0, .int 0]), (q1, ob 1 [.int (nI S), .int (nI wd), .int (nI (S * wd)), .ref w0, .ref w1, .ref w2, .ref w3, .ref w4]), (w0, aI G.2.1 (S * wd) (fun _ => 0)), (w1, aI G.2.2.1 (S * wd) (fun _ => 0)), (w2, aI G.2.1 (S * wd) (fun _ => 0)), (w3, aI G.2.1 (S * wd) (fun _ => 0)), (w4, aI G.2.2.1 (S * wd) (fun _ => 0)), (q2, ob 2 [.int (nI V), .ref r0, .ref r1, .ref r2, .int 0]), (r0, aI G.2.1 (V) (fun _ => 0)), (r1, aI G.2.1 (V) (fun _ => 0)), (r2, aI G.2.1 (V) (fun _ => 0))]) rfl ?_
  refine e_aload_n C d_C_init_57 rfl ?_
  refine e_iload_n C d_C_init_58 rfl ?_
  refine e_bipush C d_C_init_59 (v := nI 10) (by decide) ?_
  refine e_cSi C hR (k_floorMod (by decide) (by decide)) g33 g2 g31 g32 d_C_init_61 rfl ey_Math_floorMod rfl rfl ⟨by rw [hR]; show _ ≤ 24; omega, by rw [hR]; show _ ≤ 1269; omega⟩ ?_
  refine e_top (y := nI kd) (by rw [hk]) ?_
  refine e_iload C d_C_init_64 rfl ?_
  refine e_iload C d_C_init_66 rfl ?_
  refine e_cSn C hR (k_ruleOf (V := V) hn8 hS16 hw8 hk10) g104 g1 g102 g103 d_C_init_68 rfl ey_C_ruleOf rfl rfl (by show _ ≤ 24; omega) (by show _ ≤ 1269; omega) (fun r u hB => ?_)
  obtain ⟨aR, rfl, rfl⟩ := hB
  refine e_st (st' := [.ref (aR 21), .ref b]) rfl ?_
  refine e_comm ?_
  refine e_eq (ws' := [(b, ob 0 [.ref q1, .ref q2, .null, .null, .null, .null, .int 0, .int 0, .int 0, .int 0, .int 0, .int 0]), (q1, ob 1 [.int (nI S), .int (nI wd), .int (nI (S * wd)), .ref w0, .ref w1, .ref w2, .ref w3, .ref w4]), (w0, aI G.2.1 (S * wd) (fun _ => 0)), (w1, aI G.2.2.1 (S * wd) (fun _ => 0)), (w2, aI G.2.1 (S * wd) (fun _ => 0)), (w3, aI G.2.1 (S * wd) (fun _ => 0)), (w4, aI G.2.2.1 (S * wd) (fun _ => 0)), (q2, ob 2 [.int (nI V), .ref r0, .ref r1, .ref r2, .int 0]), (r0, aI G.2.1 (V) (fun _ => 0)), (r1, aI G.2.1 (V) (fun _ => 0)), (r2, aI G.2.1 (V) (fun _ => 0))] ++ rW G aR (c0V S wd V kd) (fun _ _ => 0) (S * wd) S kd) rfl ?_
  refine e_putF C hn 0 (k := 2) in_C tk_C nm_C g266 d_C_init_71 rfl rfl rfl rfl rfl rfl rfl rfl rfl ?_
  refine e_eq (ws' := [(b, ob 0 [.ref q1, .ref q2, .ref (aR 21), .null, .null, .null, .int 0, .int 0, .int 0, .int 0, .int 0, .int 0]), (q1, ob 1 [.int (nI S), .int (nI wd), .int (nI (S * wd)), .ref w0, .ref w1, .ref w2, .ref w3, .ref w4]), (w0, aI G.2.1 (S * wd) (fun _ => 0)), (w1, aI G.2.2.1 (S * wd) (fun _ => 0)), (w2, aI G.2.1 (S * wd) (fun _ => 0)), (w3, aI G.2.1 (S * wd) (fun _ => 0)), (w4, aI G.2.2.1 (S * wd) (fun _ => 0)), (q2, ob 2 [.int (nI V), .ref r0, .ref r1, .ref r2, .int 0]), (r0, aI G.2.1 (V) (fun _ => 0)), (r1, aI G.2.1 (V) (fun _ => 0)), (r2, aI G.2.1 (V) (fun _ => 0))] ++ rW G aR (c0V S wd V kd) (fun _ _ => 0) (S * wd) S kd) rfl ?_
  refine e_aload_n C d_C_init_74 rfl ?_
  refine e_new C (ci := 3) [.null, .null, .null, .null, .null, .int 0, .int 0, .int 0] in_Asks tk_Asks g209 g210 g12 d_C_init_75 rfl (by decide) (by rw [hR]; show _ ≤ 24; omega) (by rw [hR]; show _ ≤ 1269; omega) (fun q3 => ?_)
  refine e_dup C d_C_init_78 rfl ?_
  refine e_comm ?_
  refine e_cI C hR k_Asks_init g213 g12 g211 g212 d_C_init_79 rfl rfl ey_Asks_init rfl rfl rfl (by show _ ≤ 24; omega) (by show _ ≤ 1269; omega) (fun r u hB => ?_)
  obtain ⟨rfl, a0, a1, a2, a3, a4, rfl⟩ := hB
  refine e_st (st' := [.ref q3, .ref b]) rfl ?_
  refine e_prm (List.perm_append_comm_assoc _ _ _) ?_
  refine e_eq (ws' := [(b, ob 0 [.ref q1, .ref q2, .ref (aR 21), .null, .null, .null, .int 0, .int 0, .int 0, .int 0, .int 0, .int 0]), (q1, ob 1 [.int (nI S), .int (nI wd), .int (nI (S * wd)), .ref w0, .ref w1, .ref w2, .ref w3, .ref w4]), (w0, aI G.2.1 (S * wd) (fun _ => 0)), (w1, aI G.2.2.1 (S * wd) (fun _ => 0)), (w2, aI G.2.1 (S * wd) (fun _ => 0)), (w3, aI G.2.1 (S * wd) (fun _ => 0)), (w4, aI G.2.2.1 (S * wd) (fun _ => 0)), (q2, ob 2 [.int (nI V), .ref r0, .ref r1, .ref r2, .int 0]), (r0, aI G.2.1 (V) (fun _ => 0)), (r1, aI G.2.1 (V) (fun _ => 0)), (r2, aI G.2.1 (V) (fun _ => 0)), (q3, ob 3 [.ref a0, .ref a1, .ref a2, .ref a3, .ref a4, .int 0, .int 0, .int 0]), (a0, aI G.2.1 (16) (fun _ => 0)), (a1, aI G.2.1 (16) (fun _ => 0)), (a2, aI G.2.1 (4) (fun _ => 0)), (a3, aI G.2.1 (16) (fun _ => 0)), (a4, aI G.2.1 (16) (fun _ => 0))] ++ rW G aR (c0V S wd V kd) (fun _ _ => 0) (S * wd) S kd) rfl ?_
  refine e_putF C hn 0 (k := 3) in_C tk_C nm_C g267 d_C_init_82 rfl rfl rfl rfl rfl rfl rfl rfl rfl ?_
  refine e_eq (ws' := [(b, ob 0 [.ref q1, .ref q2, .ref (aR 21), .ref q3, .null, .null, .int 0, .int 0, .int 0, .int 0, .int 0, .int 0]), (q1, ob 1 [.int (nI S), .int (nI wd), .int (nI (S * wd)), .ref w0, .ref w1, .ref w2, .ref w3, .ref w4]), (w0, aI G.2.1 (S * wd) (fun _ => 0)), (w1, aI G.2.2.1 (S * wd) (fun _ => 0)), (w2, aI G.2.1 (S * wd) (fun _ => 0)), (w3, aI G.2.1 (S * wd) (fun _ => 0)), (w4, aI G.2.2.1 (S * wd) (fun _ => 0)), (q2, ob 2 [.int (nI V), .ref r0, .ref r1, .ref r2, .int 0]), (r0, aI G.2.1 (V) (fun _ => 0)), (r1, aI G.2.1 (V) (fun _ => 0)), (r2, aI G.2.1 (V) (fun _ => 0)), (q3, ob 3 [.ref a0, .ref a1, .ref a2, .ref a3, .ref a4, .int 0, .int 0, .int 0]), (a0, aI G.2.1 (16) (fun _ => 0)), (a1, aI G.2.1 (16) (fun _ => 0)), (a2, aI G.2.1 (4) (fun _ => 0)), (a3, aI G.2.1 (16) (fun _ => 0)), (a4, aI G.2.1 (16) (fun _ => 0))] ++ rW G aR (c0V S wd V kd) (fun _ _ => 0) (S * wd) S kd) rfl ?_
  refine e_aload_n C d_C_init_85 rfl ?_
  refine e_new C (ci := 4) [.null, .null, .int 0, .int 0] in_Hist tk_Hist g245 g246 g13 d_C_init_86 rfl (by decide) (by rw [hR]; show _ ≤ 24; omega) (by rw [hR]; show _ ≤ 1269; omega) (fun q4 => ?_)
  refine e_dup C d_C_init_89 rfl ?_
  refine e_comm ?_
  refine e_cI C hR k_Hist_init g249 g13 g247 g248 d_C_init_90 rfl rfl ey_Hist_init rfl rfl rfl (by show _ ≤ 24; omega) (by show _ ≤ 1269; omega) (fun r u hB => ?_)
  obtain ⟨rfl, z0, z1, rfl⟩ := hB
  refine e_st (st' := [.ref q4, .ref b]) rfl ?_
  refine e_prm (List.perm_append_comm_assoc _ _ _) ?_
  refine e_eq (ws' := [(b, ob 0 [.ref q1, .ref q2, .ref (aR 21), .ref q3, .null, .null, .int 0, .int 0, .int 0, .int 0, .int 0, .int 0]), (q1, ob 1 [.int (nI S), .int (nI wd), .int (nI (S * wd)), .ref w0, .ref w1, .ref w2, .ref w3, .ref w4]), (w0, aI G.2.1 (S * wd) (fun _ => 0)), (w1, aI G.2.2.1 (S * wd) (fun _ => 0)), (w2, aI G.2.1 (S * wd) (fun _ => 0)), (w3, aI G.2.1 (S * wd) (fun _ => 0)), (w4, aI G.2.2.1 (S * wd) (fun _ => 0)), (q2, ob 2 [.int (nI V), .ref r0, .ref r1, .ref r2, .int 0]), (r0, aI G.2.1 (V) (fun _ => 0)), (r1, aI G.2.1 (V) (fun _ => 0)), (r2, aI G.2.1 (V) (fun _ => 0)), (q3, ob 3 [.ref a0, .ref a1, .ref a2, .ref a3, .ref a4, .int 0, .int 0, .int 0]), (a0, aI G.2.1 (16) (fun _ => 0)), (a1, aI G.2.1 (16) (fun _ => 0)), (a2, aI G.2.1 (4) (fun _ => 0)), (a3, aI G.2.1 (16) (fun _ => 0)), (a4, aI G.2.1 (16) (fun _ => 0)), (q4, ob 4 [.ref z0, .ref z1, .int 0, .int 0]), (z0, aI G.2.1 (64) (fun _ => 0)), (z1, aI G.2.1 (64) (fun _ => 0))] ++ rW G aR (c0V S wd V kd) (fun _ _ => 0) (S * wd) S kd) rfl ?_
  refine e_putF C hn 0 (k := 4) in_C tk_C nm_C g268 d_C_init_93 rfl rfl rfl rfl rfl rfl rfl rfl rfl ?_
  refine e_eq (ws' := [(b, ob 0 [.ref q1, .ref q2, .ref (aR 21), .ref q3, .ref q4, .null, .int 0, .int 0, .int 0, .int 0, .int 0, .int 0]), (q1, ob 1 [.int (nI S), .int (nI wd), .int (nI (S * wd)), .ref w0, .ref w1, .ref w2, .ref w3, .ref w4]), (w0, aI G.2.1 (S * wd) (fun _ => 0)), (w1, aI G.2.2.1 (S * wd) (fun _ => 0)), (w2, aI G.2.1 (S * wd) (fun _ => 0)), (w3, aI G.2.1 (S * wd) (fun _ => 0)), (w4, aI G.2.2.1 (S * wd) (fun _ => 0)), (q2, ob 2 [.int (nI V), .ref r0, .ref r1, .ref r2, .int 0]), (r0, aI G.2.1 (V) (fun _ => 0)), (r1, aI G.2.1 (V) (fun _ => 0)), (r2, aI G.2.1 (V) (fun _ => 0)), (q3, ob 3 [.ref a0, .ref a1, .ref a2, .ref a3, .ref a4, .int 0, .int 0, .int 0]), (a0, aI G.2.1 (16) (fun _ => 0)), (a1, aI G.2.1 (16) (fun _ => 0)), (a2, aI G.2.1 (4) (fun _ => 0)), (a3, aI G.2.1 (16) (fun _ => 0)), (a4, aI G.2.1 (16) (fun _ => 0)), (q4, ob 4 [.ref z0, .ref z1, .int 0, .int 0]), (z0, aI G.2.1 (64) (fun _ => 0)), (z1, aI G.2.1 (64) (fun _ => 0))] ++ rW G aR (c0V S wd V kd) (fun _ _ => 0) (S * wd) S kd) rfl ?_
  refine e_aload_n C d_C_init_96 rfl ?_
  refine e_iconst C d_C_init_97 (v := nI 5) (by decide) ?_
  refine e_newa C 0 g73 rfl rfl (fun _ h => h) rfl (by decide) (5) d_C_init_98 rfl (by omega) (by rw [hR]; show _ ≤ 24; omega) (by rw [hR]; show _ ≤ 1269; omega) (fun kn => ?_)
  refine e_eq (List.append_assoc _ _ _) ?_
  refine e_prm (List.Perm.append_left _ List.perm_append_comm) ?_
  refine e_eq (ws' := [(b, ob 0 [.ref q1, .ref q2, .ref (aR 21), .ref q3, .ref q4, .null, .int 0, .int 0, .int 0, .int 0, .int 0, .int 0]), (q1, ob 1 [.int (nI S), .int (nI wd), .int (nI (S * wd)), .ref w0, .ref w1, .ref w2, .ref w3, .ref w4]), (w0, aI G.2.1 (S * wd) (fun _ => 0)), (w1, aI G.2.2.1 (S * wd) (fun _ => 0)), (w2, aI G.2.1 (S * wd) (fun _ => 0)), (w3, aI G.2.1 (S * wd) (fun _ => 0)), (w4, aI G.2.2.1 (S * wd) (fun _ => 0)), (q2, ob 2 [.int (nI V), .ref r0, .ref r1, .ref r2, .int 0]), (r0, aI G.2.1 (V) (fun _ => 0)), (r1, aI G.2.1 (V) (fun _ => 0)), (r2, aI G.2.1 (V) (fun _ => 0)), (q3, ob 3 [.ref a0, .ref a1, .ref a2, .ref a3, .ref a4, .int 0, .int 0, .int 0]), (a0, aI G.2.1 (16) (fun _ => 0)), (a1, aI G.2.1 (16) (fun _ => 0)), (a2, aI G.2.1 (4) (fun _ => 0)), (a3, aI G.2.1 (16) (fun _ => 0)), (a4, aI G.2.1 (16) (fun _ => 0)), (q4, ob 4 [.ref z0, .ref z1, .int 0, .int 0]), (z0, aI G.2.1 (64) (fun _ => 0)), (z1, aI G.2.1 (64) (fun _ => 0)), (kn, aI G.2.1 (5) (fun _ => 0))] ++ rW G aR (c0V S wd V kd) (fun _ _ => 0) (S * wd) S kd) rfl ?_
  refine e_putF C hn 0 (k := 5) in_C tk_C nm_C g269 d_C_init_100 rfl rfl rfl rfl rfl rfl rfl rfl rfl ?_
  refine e_eq (ws' := [(b, ob 0 [.ref q1, .ref q2, .ref (aR 21), .ref q3, .ref q4, .ref kn, .int 0, .int 0, .int 0, .int 0, .int 0, .int 0]), (q1, ob 1 [.int (nI S), .int (nI wd), .int (nI (S * wd)), .ref w0, .ref w1, .ref w2, .ref w3, .ref w4]), (w0, aI G.2.1 (S * wd) (fun _ => 0)), (w1, aI G.2.2.1 (S * wd) (fun _ => 0)), (w2, aI G.2.1 (S * wd) (fun _ => 0)), (w3, aI G.2.1 (S * wd) (fun _ => 0)), (w4, aI G.2.2.1 (S * wd) (fun _ => 0)), (q2, ob 2 [.int (nI V), .ref r0, .ref r1, .ref r2, .int 0]), (r0, aI G.2.1 (V) (fun _ => 0)), (r1, aI G.2.1 (V) (fun _ => 0)), (r2, aI G.2.1 (V) (fun _ => 0)), (q3, ob 3 [.ref a0, .ref a1, .ref a2, .ref a3, .ref a4, .int 0, .int 0, .int 0]), (a0, aI G.2.1 (16) (fun _ => 0)), (a1, aI G.2.1 (16) (fun _ => 0)), (a2, aI G.2.1 (4) (fun _ => 0)), (a3, aI G.2.1 (16) (fun _ => 0)), (a4, aI G.2.1 (16) (fun _ => 0)), (q4, ob 4 [.ref z0, .ref z1, .int 0, .int 0]), (z0, aI G.2.1 (64) (fun _ => 0)), (z1, aI G.2.1 (64) (fun _ => 0)), (kn, aI G.2.1 (5) (fun _ => 0))] ++ rW G aR (c0V S wd V kd) (fun _ _ => 0) (S * wd) S kd) rfl ?_
  refine e_aload_n C d_C_init_103 rfl ?_
  refine e_iconst C d_C_init_104 (v := 0) (by decide) ?_
  refine e_put C 0 (k := 6) in_C tk_C nm_C g270 d_C_init_105 rfl rfl rfl rfl rfl rfl rfl rfl ?_
  refine e_eq (ws' := [(b, ob 0 [.ref q1, .ref q2, .ref (aR 21), .ref q3, .ref q4, .ref kn, .int 0, .int 0, .int 0, .int 0, .int 0, .int 0]), (q1, ob 1 [.int (nI S), .int (nI wd), .int (nI (S * wd)), .ref w0, .ref w1, .ref w2, .ref w3, .ref w4]), (w0, aI G.2.1 (S * wd) (fun _ => 0)), (w1, aI G.2.2.1 (S * wd) (fun _ => 0)), (w2, aI G.2.1 (S * wd) (fun _ => 0)), (w3, aI G.2.1 (S * wd) (fun _ => 0)), (w4, aI G.2.2.1 (S * wd) (fun _ => 0)), (q2, ob 2 [.int (nI V), .ref r0, .ref r1, .ref r2, .int 0]), (r0, aI G.2.1 (V) (fun _ => 0)), (r1, aI G.2.1 (V) (fun _ => 0)), (r2, aI G.2.1 (V) (fun _ => 0)), (q3, ob 3 [.ref a0, .ref a1, .ref a2, .ref a3, .ref a4, .int 0, .int 0, .int 0]), (a0, aI G.2.1 (16) (fun _ => 0)), (a1, aI G.2.1 (16) (fun _ => 0)), (a2, aI G.2.1 (4) (fun _ => 0)), (a3, aI G.2.1 (16) (fun _ => 0)), (a4, aI G.2.1 (16) (fun _ => 0)), (q4, ob 4 [.ref z0, .ref z1, .int 0, .int 0]), (z0, aI G.2.1 (64) (fun _ => 0)), (z1, aI G.2.1 (64) (fun _ => 0)), (kn, aI G.2.1 (5) (fun _ => 0))] ++ rW G aR (c0V S wd V kd) (fun _ _ => 0) (S * wd) S kd) rfl ?_
  refine e_aload_n C d_C_init_108 rfl ?_
  refine e_iconst C d_C_init_109 (v := 1) (by decide) ?_
  refine e_put C 0 (k := 7) in_C tk_C nm_C g271 d_C_init_110 rfl rfl rfl rfl rfl rfl rfl rfl ?_
  refine e_eq (ws' := [(b, ob 0 [.ref q1, .ref q2, .ref (aR 21), .ref q3, .ref q4, .ref kn, .int 0, .int (1), .int 0, .int 0, .int 0, .int 0]), (q1, ob 1 [.int (nI S), .int (nI wd), .int (nI (S * wd)), .ref w0, .ref w1, .ref w2, .ref w3, .ref w4]), (w0, aI G.2.1 (S * wd) (fun _ => 0)), (w1, aI G.2.2.1 (S * wd) (fun _ => 0)), (w2, aI G.2.1 (S * wd) (fun _ => 0)), (w3, aI G.2.1 (S * wd) (fun _ => 0)), (w4, aI G.2.2.1 (S * wd) (fun _ => 0)), (q2, ob 2 [.int (nI V), .ref r0, .ref r1, .ref r2, .int 0]), (r0, aI G.2.1 (V) (fun _ => 0)), (r1, aI G.2.1 (V) (fun _ => 0)), (r2, aI G.2.1 (V) (fun _ => 0)), (q3, ob 3 [.ref a0, .ref a1, .ref a2, .ref a3, .ref a4, .int 0, .int 0, .int 0]), (a0, aI G.2.1 (16) (fun _ => 0)), (a1, aI G.2.1 (16) (fun _ => 0)), (a2, aI G.2.1 (4) (fun _ => 0)), (a3, aI G.2.1 (16) (fun _ => 0)), (a4, aI G.2.1 (16) (fun _ => 0)), (q4, ob 4 [.ref z0, .ref z1, .int 0, .int 0]), (z0, aI G.2.1 (64) (fun _ => 0)), (z1, aI G.2.1 (64) (fun _ => 0)), (kn, aI G.2.1 (5) (fun _ => 0))] ++ rW G aR (c0V S wd V kd) (fun _ _ => 0) (S * wd) S kd) rfl ?_
  refine e_vret C E d_C_init_113 (by show _ ≤ 24; omega) (by show _ ≤ 1269; omega) ⟨rfl, fun k => if k < 21 then ([b, q1, w0, w1, w2, w3, w4, q2, r0, r1, r2, q3, a0, a1, a2, a3, a4, q4, z0, z1, kn] : List Nat).getD k 0 else aR k, rfl, ?_⟩
  rw [rW_a (a := aR) (a' := fun k => if k < 21 then ([b, q1, w0, w1, w2, w3, w4, q2, r0, r1, r2, q3, a0, a1, a2, a3, a4, q4, z0, z1, kn] : List Nat).getD k 0 else aR k) (fun k hk => (if_neg (by omega)).symm)]
  rfl
theorem ey_M_init : eY y_M_init 4 = true := by decide +kernel
theorem d_M_init_0 : decode c_M_init 0 = .ok (.aload_n 0, 1) := by decide +kernel
theorem d_M_init_1 : decode c_M_init 1 = .ok (.invokespecial 1, 3) := by decide +kernel
theorem d_M_init_4 : decode c_M_init 4 = .ok (.aload_n 0, 1) := by decide +kernel
theorem d_M_init_5 : decode c_M_init 5 = .ok (.iconst 1, 1) := by decide +kernel
theorem d_M_init_6 : decode c_M_init 6 = .ok (.putfield 7, 3) := by decide +kernel
theorem d_M_init_9 : decode c_M_init 9 = .ok (.aload_n 0, 1) := by decide +kernel
theorem d_M_init_10 : decode c_M_init 10 = .ok (.sipush 128, 3) := by decide +kernel
theorem d_M_init_13 : decode c_M_init 13 = .ok (.newarray .boolean, 2) := by decide +kernel
theorem d_M_init_15 : decode c_M_init 15 = .ok (.putfield 13, 3) := by decide +kernel
theorem d_M_init_18 : decode c_M_init 18 = .ok (.aload_n 0, 1) := by decide +kernel
theorem d_M_init_19 : decode c_M_init 19 = .ok (.sipush 128, 3) := by decide +kernel
theorem d_M_init_22 : decode c_M_init 22 = .ok (.newarray .int, 2) := by decide +kernel
theorem d_M_init_24 : decode c_M_init 24 = .ok (.putfield 17, 3) := by decide +kernel
theorem d_M_init_27 : decode c_M_init 27 = .ok (.aload_n 0, 1) := by decide +kernel
theorem d_M_init_28 : decode c_M_init 28 = .ok (.sipush 128, 3) := by decide +kernel
theorem d_M_init_31 : decode c_M_init 31 = .ok (.newarray .int, 2) := by decide +kernel
theorem d_M_init_33 : decode c_M_init 33 = .ok (.putfield 21, 3) := by decide +kernel
theorem d_M_init_36 : decode c_M_init 36 = .ok (.aload_n 0, 1) := by decide +kernel
theorem d_M_init_37 : decode c_M_init 37 = .ok (.sipush 128, 3) := by decide +kernel
theorem d_M_init_40 : decode c_M_init 40 = .ok (.newarray .int, 2) := by decide +kernel
theorem d_M_init_42 : decode c_M_init 42 = .ok (.putfield 24, 3) := by decide +kernel
theorem d_M_init_45 : decode c_M_init 45 = .ok (.aload_n 0, 1) := by decide +kernel
theorem d_M_init_46 : decode c_M_init 46 = .ok (.sipush 128, 3) := by decide +kernel
theorem d_M_init_49 : decode c_M_init 49 = .ok (.newarray .boolean, 2) := by decide +kernel
theorem d_M_init_51 : decode c_M_init 51 = .ok (.putfield 27, 3) := by decide +kernel
theorem d_M_init_54 : decode c_M_init 54 = .ok (.aload_n 0, 1) := by decide +kernel
theorem d_M_init_55 : decode c_M_init 55 = .ok (.sipush 128, 3) := by decide +kernel
theorem d_M_init_58 : decode c_M_init 58 = .ok (.newarray .int, 2) := by decide +kernel
theorem d_M_init_60 : decode c_M_init 60 = .ok (.putfield 30, 3) := by decide +kernel
theorem d_M_init_63 : decode c_M_init 63 = .ok (.aload_n 0, 1) := by decide +kernel
theorem d_M_init_64 : decode c_M_init 64 = .ok (.sipush 128, 3) := by decide +kernel
theorem d_M_init_67 : decode c_M_init 67 = .ok (.newarray .int, 2) := by decide +kernel
theorem d_M_init_69 : decode c_M_init 69 = .ok (.putfield 33, 3) := by decide +kernel
theorem d_M_init_72 : decode c_M_init 72 = .ok (.aload_n 0, 1) := by decide +kernel
theorem d_M_init_73 : decode c_M_init 73 = .ok (.sipush 128, 3) := by decide +kernel
theorem d_M_init_76 : decode c_M_init 76 = .ok (.newarray .int, 2) := by decide +kernel
theorem d_M_init_78 : decode c_M_init 78 = .ok (.putfield 36, 3) := by decide +kernel
theorem d_M_init_81 : decode c_M_init 81 = .ok (.aload_n 0, 1) := by decide +kernel
theorem d_M_init_82 : decode c_M_init 82 = .ok (.sipush 128, 3) := by decide +kernel
theorem d_M_init_85 : decode c_M_init 85 = .ok (.newarray .boolean, 2) := by decide +kernel
theorem d_M_init_87 : decode c_M_init 87 = .ok (.putfield 39, 3) := by decide +kernel
theorem d_M_init_90 : decode c_M_init 90 = .ok (.aload_n 0, 1) := by decide +kernel
theorem d_M_init_91 : decode c_M_init 91 = .ok (.sipush 128, 3) := by decide +kernel
theorem d_M_init_94 : decode c_M_init 94 = .ok (.newarray .int, 2) := by decide +kernel
theorem d_M_init_96 : decode c_M_init 96 = .ok (.putfield 42, 3) := by decide +kernel
theorem d_M_init_99 : decode c_M_init 99 = .ok (.aload_n 0, 1) := by decide +kernel
theorem d_M_init_100 : decode c_M_init 100 = .ok (.bipush 16, 2) := by decide +kernel
theorem d_M_init_102 : decode c_M_init 102 = .ok (.newarray .int, 2) := by decide +kernel
theorem d_M_init_104 : decode c_M_init 104 = .ok (.putfield 45, 3) := by decide +kernel
theorem d_M_init_107 : decode c_M_init 107 = .ok (.aload_n 0, 1) := by decide +kernel
theorem d_M_init_108 : decode c_M_init 108 = .ok (.sipush 128, 3) := by decide +kernel
theorem d_M_init_111 : decode c_M_init 111 = .ok (.newarray .boolean, 2) := by decide +kernel
theorem d_M_init_113 : decode c_M_init 113 = .ok (.putfield 48, 3) := by decide +kernel
theorem d_M_init_116 : decode c_M_init 116 = .ok (.aload_n 0, 1) := by decide +kernel
theorem d_M_init_117 : decode c_M_init 117 = .ok (.iconst 1, 1) := by decide +kernel
theorem d_M_init_118 : decode c_M_init 118 = .ok (.putfield 51, 3) := by decide +kernel
theorem d_M_init_121 : decode c_M_init 121 = .ok (.aload_n 0, 1) := by decide +kernel
theorem d_M_init_122 : decode c_M_init 122 = .ok (.iconst 5, 1) := by decide +kernel
theorem d_M_init_123 : decode c_M_init 123 = .ok (.newarray .int, 2) := by decide +kernel
theorem d_M_init_125 : decode c_M_init 125 = .ok (.putfield 55, 3) := by decide +kernel
theorem d_M_init_128 : decode c_M_init 128 = .ok (.aload_n 0, 1) := by decide +kernel
theorem d_M_init_129 : decode c_M_init 129 = .ok (.iconst 5, 1) := by decide +kernel
theorem d_M_init_130 : decode c_M_init 130 = .ok (.newarray .int, 2) := by decide +kernel
theorem d_M_init_132 : decode c_M_init 132 = .ok (.putfield 58, 3) := by decide +kernel
theorem d_M_init_135 : decode c_M_init 135 = .ok (.aload_n 0, 1) := by decide +kernel
theorem d_M_init_136 : decode c_M_init 136 = .ok (.iconst 5, 1) := by decide +kernel
theorem d_M_init_137 : decode c_M_init 137 = .ok (.newarray .int, 2) := by decide +kernel
theorem d_M_init_139 : decode c_M_init 139 = .ok (.putfield 61, 3) := by decide +kernel
theorem d_M_init_142 : decode c_M_init 142 = .ok (.aload_n 0, 1) := by decide +kernel
theorem d_M_init_143 : decode c_M_init 143 = .ok (.bipush 16, 2) := by decide +kernel
theorem d_M_init_145 : decode c_M_init 145 = .ok (.newarray .int, 2) := by decide +kernel
theorem d_M_init_147 : decode c_M_init 147 = .ok (.putfield 64, 3) := by decide +kernel
theorem d_M_init_150 : decode c_M_init 150 = .ok (.aload_n 0, 1) := by decide +kernel
theorem d_M_init_151 : decode c_M_init 151 = .ok (.bipush 16, 2) := by decide +kernel
theorem d_M_init_153 : decode c_M_init 153 = .ok (.newarray .int, 2) := by decide +kernel
theorem d_M_init_155 : decode c_M_init 155 = .ok (.putfield 67, 3) := by decide +kernel
theorem d_M_init_158 : decode c_M_init 158 = .ok (.aload_n 0, 1) := by decide +kernel
theorem d_M_init_159 : decode c_M_init 159 = .ok (.bipush 16, 2) := by decide +kernel
theorem d_M_init_161 : decode c_M_init 161 = .ok (.newarray .int, 2) := by decide +kernel
theorem d_M_init_163 : decode c_M_init 163 = .ok (.putfield 70, 3) := by decide +kernel
theorem d_M_init_166 : decode c_M_init 166 = .ok (.aload_n 0, 1) := by decide +kernel
theorem d_M_init_167 : decode c_M_init 167 = .ok (.bipush 16, 2) := by decide +kernel
theorem d_M_init_169 : decode c_M_init 169 = .ok (.newarray .int, 2) := by decide +kernel
theorem d_M_init_171 : decode c_M_init 171 = .ok (.putfield 73, 3) := by decide +kernel
theorem d_M_init_174 : decode c_M_init 174 = .ok (.aload_n 0, 1) := by decide +kernel
theorem d_M_init_175 : decode c_M_init 175 = .ok (.bipush 65, 2) := by decide +kernel
theorem d_M_init_177 : decode c_M_init 177 = .ok (.newarray .int, 2) := by decide +kernel
theorem d_M_init_179 : decode c_M_init 179 = .ok (.putfield 76, 3) := by decide +kernel
theorem d_M_init_182 : decode c_M_init 182 = .ok (.aload_n 0, 1) := by decide +kernel
theorem d_M_init_183 : decode c_M_init 183 = .ok (.bipush 65, 2) := by decide +kernel
theorem d_M_init_185 : decode c_M_init 185 = .ok (.newarray .int, 2) := by decide +kernel
theorem d_M_init_187 : decode c_M_init 187 = .ok (.putfield 79, 3) := by decide +kernel
theorem d_M_init_190 : decode c_M_init 190 = .ok (.aload_n 0, 1) := by decide +kernel
theorem d_M_init_191 : decode c_M_init 191 = .ok (.bipush 9, 2) := by decide +kernel
theorem d_M_init_193 : decode c_M_init 193 = .ok (.newarray .int, 2) := by decide +kernel
theorem d_M_init_195 : decode c_M_init 195 = .ok (.putfield 82, 3) := by decide +kernel
theorem d_M_init_198 : decode c_M_init 198 = .ok (.aload_n 0, 1) := by decide +kernel
theorem d_M_init_199 : decode c_M_init 199 = .ok (.bipush 8, 2) := by decide +kernel
theorem d_M_init_201 : decode c_M_init 201 = .ok (.newarray .boolean, 2) := by decide +kernel
theorem d_M_init_203 : decode c_M_init 203 = .ok (.putfield 85, 3) := by decide +kernel
theorem d_M_init_206 : decode c_M_init 206 = .ok (.aload_n 0, 1) := by decide +kernel
theorem d_M_init_207 : decode c_M_init 207 = .ok (.iconst 1, 1) := by decide +kernel
theorem d_M_init_208 : decode c_M_init 208 = .ok (.iload_n 1, 1) := by decide +kernel
theorem d_M_init_209 : decode c_M_init 209 = .ok (.iconst 5, 1) := by decide +kernel
theorem d_M_init_210 : decode c_M_init 210 = .ok (.invokestatic 88, 3) := by decide +kernel
theorem d_M_init_213 : decode c_M_init 213 = .ok (.ishl, 1) := by decide +kernel
theorem d_M_init_214 : decode c_M_init 214 = .ok (.putfield 92, 3) := by decide +kernel
theorem d_M_init_217 : decode c_M_init 217 = .ok (.aload_n 0, 1) := by decide +kernel
theorem d_M_init_218 : decode c_M_init 218 = .ok (.iconst 1, 1) := by decide +kernel
theorem d_M_init_219 : decode c_M_init 219 = .ok (.iload_n 2, 1) := by decide +kernel
theorem d_M_init_220 : decode c_M_init 220 = .ok (.iconst 1, 1) := by decide +kernel
theorem d_M_init_221 : decode c_M_init 221 = .ok (.isub, 1) := by decide +kernel
theorem d_M_init_222 : decode c_M_init 222 = .ok (.bipush 7, 2) := by decide +kernel
theorem d_M_init_224 : decode c_M_init 224 = .ok (.iand, 1) := by decide +kernel
theorem d_M_init_225 : decode c_M_init 225 = .ok (.iadd, 1) := by decide +kernel
theorem d_M_init_226 : decode c_M_init 226 = .ok (.putfield 95, 3) := by decide +kernel
theorem d_M_init_229 : decode c_M_init 229 = .ok (.aload_n 0, 1) := by decide +kernel
theorem d_M_init_230 : decode c_M_init 230 = .ok (.iload_n 3, 1) := by decide +kernel
theorem d_M_init_231 : decode c_M_init 231 = .ok (.bipush 10, 2) := by decide +kernel
theorem d_M_init_233 : decode c_M_init 233 = .ok (.invokestatic 88, 3) := by decide +kernel
theorem d_M_init_236 : decode c_M_init 236 = .ok (.putfield 98, 3) := by decide +kernel
theorem d_M_init_239 : decode c_M_init 239 = .ok (.aload_n 0, 1) := by decide +kernel
theorem d_M_init_240 : decode c_M_init 240 = .ok (.iload 4, 2) := by decide +kernel
theorem d_M_init_242 : decode c_M_init 242 = .ok (.iconst 5, 1) := by decide +kernel
theorem d_M_init_243 : decode c_M_init 243 = .ok (.invokestatic 88, 3) := by decide +kernel
theorem d_M_init_246 : decode c_M_init 246 = .ok (.putfield 101, 3) := by decide +kernel
theorem d_M_init_249 : decode c_M_init 249 = .ok (.return_, 1) := by decide +kernel
set_option maxRecDepth 100000 in
theorem k_M_init {l : Launch} {G : EG} {b S wd V kd : Nat} {x1 x2 x3 x4 : Int32} (hS : S = 2 ^ mdN x1 5) (hw : wd = 1 + mdN (x2 - 1) 8) (hk : kd = mdN x3 10) (hV : V = mdN x4 5) : Con l G y_M_init c_M_init 5 none (rc 1 23 1650 21) [.ref b, .int x1, .int x2, .int x3, .int x4] [(b, ob 11 [.int 0, .int 0, .int 0, .int 0, .int 0, .int 0, .int 0, .null, .null, .null, .null, .null, .int 0, .null, .null, .null, .null, .null, .null, .null, .int 0, .int 0, .null, .null, .null, .int 0, .null, .null, .int 0, .null, .null, .int 0, .null, .null, .null, .null])] (fun r u => r = none ∧ ∃ a : Nat → Nat, a 40 = b ∧ u = mF G a (m0V S wd V kd) (fun _ _ => 0)) := by
  refine Con.of rfl rfl (fun X C E hR hl hn => ?_)
  refine e_aload_n C d_M_init_0 rfl ?_
  refine e_obj C hR g740 d_M_init_1 rfl ?_
  refine e_aload_n C d_M_init_4 rfl ?_
  refine e_iconst C d_M_init_5 (v := 1) (by decide) ?_
  refine e_put C 0 (k := 6) in_M tk_M nm_M g750 d_M_init_6 rfl rfl rfl rfl rfl rfl rfl rfl ?_
  refine e_eq (ws' := [(b, ob 11 [.int 0, .int 0, .int 0, .int 0, .int 0, .int 0, .int (1), .null, .null, .null, .null, .null, .int 0, .null, .null, .null, .null, .null, .null, .null, .int 0, .int 0, .null, .null, .null, .int 0, .null, .null, .int 0, .null, .null, .int 0, .null, .null, .null, .null])]) rfl ?_
  refine e_aload_n C d_M_init_9 rfl ?_
  refine e_sipush C d_M_init_10 (v := nI 128) (by decide) ?_
  refine e_newa C 1 g74 rfl rfl (fun _ h => h) rfl (by decide) (128) d_M_init_13 rfl (by omega) (by rw [hR]; show _ ≤ 23; omega) (by rw [hR]; show _ ≤ 1650; omega) (fun q1 => ?_)
  refine e_eq (ws' := [(b, ob 11 [.int 0, .int 0, .int 0, .int 0, .int 0, .int 0, .int (1), .null, .null, .null, .null, .null, .int 0, .null, .null, .null, .null, .null, .null, .null, .int 0, .int 0, .null, .null, .null, .int 0, .null, .null, .int 0, .null, .null, .int 0, .null, .null, .null, .null]), (q1, aI G.2.2.1 (128) (fun _ => 0))]) rfl ?_
  refine e_putF C hn 0 (k := 7) in_M tk_M nm_M g751 d_M_init_15 rfl rfl rfl rfl rfl rfl rfl rfl rfl ?_
  refine e_eq (ws' := [(b, ob 11 [.int 0, .int 0, .int 0, .int 0, .int 0, .int 0, .int (1), .ref q1, .null, .null, .null, .null, .int 0, .null, .null, .null, .null, .null, .null, .null, .int 0, .int 0, .null, .null, .null, .int 0, .null, .null, .int 0, .null, .null, .int 0, .null, .null, .null, .null]), (q1, aI G.2.2.1 (128) (fun _ => 0))]) rfl ?_
  refine e_aload_n C d_M_init_18 rfl ?_
  refine e_sipush C d_M_init_19 (v := nI 128) (by decide) ?_
  refine e_newa C 0 g73 rfl rfl (fun _ h => h) rfl (by decide) (128) d_M_init_22 rfl (by omega) (by rw [hR]; show _ ≤ 23; omega) (by rw [hR]; show _ ≤ 1650; omega) (fun q2 => ?_)
  refine e_eq (ws' := [(b, ob 11 [.int 0, .int 0, .int 0, .int 0, .int 0, .int 0, .int (1), .ref q1, .null, .null, .null, .null, .int 0, .null, .null, .null, .null, .null, .null, .null, .int 0, .int 0, .null, .null, .null, .int 0, .null, .null, .int 0, .null, .null, .int 0, .null, .null, .null, .null]), (q1, aI G.2.2.1 (128) (fun _ => 0)), (q2, aI G.2.1 (128) (fun _ => 0))]) rfl ?_
  refine e_putF C hn 0 (k := 8) in_M tk_M nm_M g752 d_M_init_24 rfl rfl rfl rfl rfl rfl rfl rfl rfl ?_
  refine e_eq (ws' := [(b, ob 11 [.int 0, .int 0, .int 0, .int 0, .int 0, .int 0, .int (1), .ref q1, .ref q2, .null, .null, .null, .int 0, .null, .null, .null, .null, .null, .null, .null, .int 0, .int 0, .null, .null, .null, .int 0, .null, .null, .int 0, .null, .null, .int 0, .null, .null, .null, .null]), (q1, aI G.2.2.1 (128) (fun _ => 0)), (q2, aI G.2.1 (128) (fun _ => 0))]) rfl ?_
  refine e_aload_n C d_M_init_27 rfl ?_
  refine e_sipush C d_M_init_28 (v := nI 128) (by decide) ?_
  refine e_newa C 0 g73 rfl rfl (fun _ h => h) rfl (by decide) (128) d_M_init_31 rfl (by omega) (by rw [hR]; show _ ≤ 23; omega) (by rw [hR]; show _ ≤ 1650; omega) (fun q3 => ?_)
  refine e_eq (ws' := [(b, ob 11 [.int 0, .int 0, .int 0, .int 0, .int 0, .int 0, .int (1), .ref q1, .ref q2, .null, .null, .null, .int 0, .null, .null, .null, .null, .null, .null, .null, .int 0, .int 0, .null, .null, .null, .int 0, .null, .null, .int 0, .null, .null, .int 0, .null, .null, .null, .null]), (q1, aI G.2.2.1 (128) (fun _ => 0)), (q2, aI G.2.1 (128) (fun _ => 0)), (q3, aI G.2.1 (128) (fun _ => 0))]) rfl ?_
  refine e_putF C hn 0 (k := 9) in_M tk_M nm_M g753 d_M_init_33 rfl rfl rfl rfl rfl rfl rfl rfl rfl ?_
  refine e_eq (ws' := [(b, ob 11 [.int 0, .int 0, .int 0, .int 0, .int 0, .int 0, .int (1), .ref q1, .ref q2, .ref q3, .null, .null, .int 0, .null, .null, .null, .null, .null, .null, .null, .int 0, .int 0, .null, .null, .null, .int 0, .null, .null, .int 0, .null, .null, .int 0, .null, .null, .null, .null]), (q1, aI G.2.2.1 (128) (fun _ => 0)), (q2, aI G.2.1 (128) (fun _ => 0)), (q3, aI G.2.1 (128) (fun _ => 0))]) rfl ?_
  refine e_aload_n C d_M_init_36 rfl ?_
  refine e_sipush C d_M_init_37 (v := nI 128) (by decide) ?_
  refine e_newa C 0 g73 rfl rfl (fun _ h => h) rfl (by decide) (128) d_M_init_40 rfl (by omega) (by rw [hR]; show _ ≤ 23; omega) (by rw [hR]; show _ ≤ 1650; omega) (fun q4 => ?_)
  refine e_eq (ws' := [(b, ob 11 [.int 0, .int 0, .int 0, .int 0, .int 0, .int 0, .int (1), .ref q1, .ref q2, .ref q3, .null, .null, .int 0, .null, .null, .null, .null, .null, .null, .null, .int 0, .int 0, .null, .null, .null, .int 0, .null, .null, .int 0, .null, .null, .int 0, .null, .null, .null, .null]), (q1, aI G.2.2.1 (128) (fun _ => 0)), (q2, aI G.2.1 (128) (fun _ => 0)), (q3, aI G.2.1 (128) (fun _ => 0)), (q4, aI G.2.1 (128) (fun _ => 0))]) rfl ?_
  refine e_putF C hn 0 (k := 10) in_M tk_M nm_M g754 d_M_init_42 rfl rfl rfl rfl rfl rfl rfl rfl rfl ?_
  refine e_eq (ws' := [(b, ob 11 [.int 0, .int 0, .int 0, .int 0, .int 0, .int 0, .int (1), .ref q1, .ref q2, .ref q3, .ref q4, .null, .int 0, .null, .null, .null, .null, .null, .null, .null, .int 0, .int 0, .null, .null, .null, .int 0, .null, .null, .int 0, .null, .null, .int 0, .null, .null, .null, .null]), (q1, aI G.2.2.1 (128) (fun _ => 0)), (q2, aI G.2.1 (128) (fun _ => 0)), (q3, aI G.2.1 (128) (fun _ => 0)), (q4, aI G.2.1 (128) (fun _ => 0))]) rfl ?_
  refine e_aload_n C d_M_init_45 rfl ?_
  refine e_sipush C d_M_init_46 (v := nI 128) (by decide) ?_
  refine e_newa C 1 g74 rfl rfl (fun _ h => h) rfl (by decide) (128) d_M_init_49 rfl (by omega) (by rw [hR]; show _ ≤ 23; omega) (by rw [hR]; show _ ≤ 1650; omega) (fun q5 => ?_)
  refine e_eq (ws' := [(b, ob 11 [.int 0, .int 0, .int 0, .int 0, .int 0, .int 0, .int (1), .ref q1, .ref q2, .ref q3, .ref q4, .null, .int 0, .null, .null, .null, .null, .null, .null, .null, .int 0, .int 0, .null, .null, .null, .int 0, .null, .null, .int 0, .null, .null, .int 0, .null, .null, .null, .null]), (q1, aI G.2.2.1 (128) (fun _ => 0)), (q2, aI G.2.1 (128) (fun _ => 0)), (q3, aI G.2.1 (128) (fun _ => 0)), (q4, aI G.2.1 (128) (fun _ => 0)), (q5, aI G.2.2.1 (128) (fun _ => 0))]) rfl ?_
  refine e_putF C hn 0 (k := 11) in_M tk_M nm_M g755 d_M_init_51 rfl rfl rfl rfl rfl rfl rfl rfl rfl ?_
  refine e_eq (ws' := [(b, ob 11 [.int 0, .int 0, .int 0, .int 0, .int 0, .int 0, .int (1), .ref q1, .ref q2, .ref q3, .ref q4, .ref q5, .int 0, .null, .null, .null, .null, .null, .null, .null, .int 0, .int 0, .null, .null, .null, .int 0, .null, .null, .int 0, .null, .null, .int 0, .null, .null, .null, .null]), (q1, aI G.2.2.1 (128) (fun _ => 0)), (q2, aI G.2.1 (128) (fun _ => 0)), (q3, aI G.2.1 (128) (fun _ => 0)), (q4, aI G.2.1 (128) (fun _ => 0)), (q5, aI G.2.2.1 (128) (fun _ => 0))]) rfl ?_
  refine e_aload_n C d_M_init_54 rfl ?_
  refine e_sipush C d_M_init_55 (v := nI 128) (by decide) ?_
  refine e_newa C 0 g73 rfl rfl (fun _ h => h) rfl (by decide) (128) d_M_init_58 rfl (by omega) (by rw [hR]; show _ ≤ 23; omega) (by rw [hR]; show _ ≤ 1650; omega) (fun q6 => ?_)
  refine e_eq (ws' := [(b, ob 11 [.int 0, .int 0, .int 0, .int 0, .int 0, .int 0, .int (1), .ref q1, .ref q2, .ref q3, .ref q4, .ref q5, .int 0, .null, .null, .null, .null, .null, .null, .null, .int 0, .int 0, .null, .null, .null, .int 0, .null, .null, .int 0, .null, .null, .int 0, .null, .null, .null, .null]), (q1, aI G.2.2.1 (128) (fun _ => 0)), (q2, aI G.2.1 (128) (fun _ => 0)), (q3, aI G.2.1 (128) (fun _ => 0)), (q4, aI G.2.1 (128) (fun _ => 0)), (q5, aI G.2.2.1 (128) (fun _ => 0)), (q6, aI G.2.1 (128) (fun _ => 0))]) rfl ?_
  refine e_putF C hn 0 (k := 13) in_M tk_M nm_M g757 d_M_init_60 rfl rfl rfl rfl rfl rfl rfl rfl rfl ?_
  refine e_eq (ws' := [(b, ob 11 [.int 0, .int 0, .int 0, .int 0, .int 0, .int 0, .int (1), .ref q1, .ref q2, .ref q3, .ref q4, .ref q5, .int 0, .ref q6, .null, .null, .null, .null, .null, .null, .int 0, .int 0, .null, .null, .null, .int 0, .null, .null, .int 0, .null, .null, .int 0, .null, .null, .null, .null]), (q1, aI G.2.2.1 (128) (fun _ => 0)), (q2, aI G.2.1 (128) (fun _ => 0)), (q3, aI G.2.1 (128) (fun _ => 0)), (q4, aI G.2.1 (128) (fun _ => 0)), (q5, aI G.2.2.1 (128) (fun _ => 0)), (q6, aI G.2.1 (128) (fun _ => 0))]) rfl ?_
  refine e_aload_n C d_M_init_63 rfl ?_
  refine e_sipush C d_M_init_64 (v := nI 128) (by decide) ?_
  refine e_newa C 0 g73 rfl rfl (fun _ h => h) rfl (by decide) (128) d_M_init_67 rfl (by omega) (by rw [hR]; show _ ≤ 23; omega) (by rw [hR]; show _ ≤ 1650; omega) (fun q7 => ?_)
  refine e_eq (ws' := [(b, ob 11 [.int 0, .int 0, .int 0, .int 0, .int 0, .int 0, .int (1), .ref q1, .ref q2, .ref q3, .ref q4, .ref q5, .int 0, .ref q6, .null, .null, .null, .null, .null, .null, .int 0, .int 0, .null, .null, .null, .int 0, .null, .null, .int 0, .null, .null, .int 0, .null, .null, .null, .null]), (q1, aI G.2.2.1 (128) (fun _ => 0)), (q2, aI G.2.1 (128) (fun _ => 0)), (q3, aI G.2.1 (128) (fun _ => 0)), (q4, aI G.2.1 (128) (fun _ => 0)), (q5, aI G.2.2.1 (128) (fun _ => 0)), (q6, aI G.2.1 (128) (fun _ => 0)), (q7, aI G.2.1 (128) (fun _ => 0))]) rfl ?_
  refine e_putF C hn 0 (k := 14) in_M tk_M nm_M g758 d_M_init_69 rfl rfl rfl rfl rfl rfl rfl rfl rfl ?_
  refine e_eq (ws' := [(b, ob 11 [.int 0, .int 0, .int 0, .int 0, .int 0, .int 0, .int (1), .ref q1, .ref q2, .ref q3, .ref q4, .ref q5, .int 0, .ref q6, .ref q7, .null, .null, .null, .null, .null, .int 0, .int 0, .null, .null, .null, .int 0, .null, .null, .int 0, .null, .null, .int 0, .null, .null, .null, .null]), (q1, aI G.2.2.1 (128) (fun _ => 0)), (q2, aI G.2.1 (128) (fun _ => 0)), (q3, aI G.2.1 (128) (fun _ => 0)), (q4, aI G.2.1 (128) (fun _ => 0)), (q5, aI G.2.2.1 (128) (fun _ => 0)), (q6, aI G.2.1 (128) (fun _ => 0)), (q7, aI G.2.1 (128) (fun _ => 0))]) rfl ?_
  refine e_aload_n C d_M_init_72 rfl ?_
  refine e_sipush C d_M_init_73 (v := nI 128) (by decide) ?_
  refine e_newa C 0 g73 rfl rfl (fun _ h => h) rfl (by decide) (128) d_M_init_76 rfl (by omega) (by rw [hR]; show _ ≤ 23; omega) (by rw [hR]; show _ ≤ 1650; omega) (fun q8 => ?_)
  refine e_eq (ws' := [(b, ob 11 [.int 0, .int 0, .int 0, .int 0, .int 0, .int 0, .int (1), .ref q1, .ref q2, .ref q3, .ref q4, .ref q5, .int 0, .ref q6, .ref q7, .null, .null, .null, .null, .null, .int 0, .int 0, .null, .null, .null, .int 0, .null, .null, .int 0, .null, .null, .int 0, .null, .null, .null, .null]), (q1, aI G.2.2.1 (128) (fun _ => 0)), (q2, aI G.2.1 (128) (fun _ => 0)), (q3, aI G.2.1 (128) (fun _ => 0)), (q4, aI G.2.1 (128) (fun _ => 0)), (q5, aI G.2.2.1 (128) (fun _ => 0)), (q6, aI G.2.1 (128) (fun _ => 0)), (q7, aI G.2.1 (128) (fun _ => 0)), (q8, aI G.2.1 (128) (fun _ => 0))]) rfl ?_
  refine e_putF C hn 0 (k := 15) in_M tk_M nm_M g759 d_M_init_78 rfl rfl rfl rfl rfl rfl rfl rfl rfl ?_
  refine e_eq (ws' := [(b, ob 11 [.int 0, .int 0, .int 0, .int 0, .int 0, .int 0, .int (1), .ref q1, .ref q2, .ref q3, .ref q4, .ref q5, .int 0, .ref q6, .ref q7, .ref q8, .null, .null, .null, .null, .int 0, .int 0, .null, .null, .null, .int 0, .null, .null, .int 0, .null, .null, .int 0, .null, .null, .null, .null]), (q1, aI G.2.2.1 (128) (fun _ => 0)), (q2, aI G.2.1 (128) (fun _ => 0)), (q3, aI G.2.1 (128) (fun _ => 0)), (q4, aI G.2.1 (128) (fun _ => 0)), (q5, aI G.2.2.1 (128) (fun _ => 0)), (q6, aI G.2.1 (128) (fun _ => 0)), (q7, aI G.2.1 (128) (fun _ => 0)), (q8, aI G.2.1 (128) (fun _ => 0))]) rfl ?_
  refine e_aload_n C d_M_init_81 rfl ?_
  refine e_sipush C d_M_init_82 (v := nI 128) (by decide) ?_
  refine e_newa C 1 g74 rfl rfl (fun _ h => h) rfl (by decide) (128) d_M_init_85 rfl (by omega) (by rw [hR]; show _ ≤ 23; omega) (by rw [hR]; show _ ≤ 1650; omega) (fun q9 => ?_)
  refine e_eq (ws' := [(b, ob 11 [.int 0, .int 0, .int 0, .int 0, .int 0, .int 0, .int (1), .ref q1, .ref q2, .ref q3, .ref q4, .ref q5, .int 0, .ref q6, .ref q7, .ref q8, .null, .null, .null, .null, .int 0, .int 0, .null, .null, .null, .int 0, .null, .null, .int 0, .null, .null, .int 0, .null, .null, .null, .null]), (q1, aI G.2.2.1 (128) (fun _ => 0)), (q2, aI G.2.1 (128) (fun _ => 0)), (q3, aI G.2.1 (128) (fun _ => 0)), (q4, aI G.2.1 (128) (fun _ => 0)), (q5, aI G.2.2.1 (128) (fun _ => 0)), (q6, aI G.2.1 (128) (fun _ => 0)), (q7, aI G.2.1 (128) (fun _ => 0)), (q8, aI G.2.1 (128) (fun _ => 0)), (q9, aI G.2.2.1 (128) (fun _ => 0))]) rfl ?_
  refine e_putF C hn 0 (k := 16) in_M tk_M nm_M g760 d_M_init_87 rfl rfl rfl rfl rfl rfl rfl rfl rfl ?_
  refine e_eq (ws' := [(b, ob 11 [.int 0, .int 0, .int 0, .int 0, .int 0, .int 0, .int (1), .ref q1, .ref q2, .ref q3, .ref q4, .ref q5, .int 0, .ref q6, .ref q7, .ref q8, .ref q9, .null, .null, .null, .int 0, .int 0, .null, .null, .null, .int 0, .null, .null, .int 0, .null, .null, .int 0, .null, .null, .null, .null]), (q1, aI G.2.2.1 (128) (fun _ => 0)), (q2, aI G.2.1 (128) (fun _ => 0)), (q3, aI G.2.1 (128) (fun _ => 0)), (q4, aI G.2.1 (128) (fun _ => 0)), (q5, aI G.2.2.1 (128) (fun _ => 0)), (q6, aI G.2.1 (128) (fun _ => 0)), (q7, aI G.2.1 (128) (fun _ => 0)), (q8, aI G.2.1 (128) (fun _ => 0)), (q9, aI G.2.2.1 (128) (fun _ => 0))]) rfl ?_
  refine e_aload_n C d_M_init_90 rfl ?_
  refine e_sipush C d_M_init_91 (v := nI 128) (by decide) ?_
  refine e_newa C 0 g73 rfl rfl (fun _ h => h) rfl (by decide) (128) d_M_init_94 rfl (by omega) (by rw [hR]; show _ ≤ 23; omega) (by rw [hR]; show _ ≤ 1650; omega) (fun q10 => ?_)
  refine e_eq (ws' := [(b, ob 11 [.int 0, .int 0, .int 0, .int 0, .int 0, .int 0, .int (1), .ref q1, .ref q2, .ref q3, .ref q4, .ref q5, .int 0, .ref q6, .ref q7, .ref q8, .ref q9, .null, .null, .null, .int 0, .int 0, .null, .null, .null, .int 0, .null, .null, .int 0, .null, .null, .int 0, .null, .null, .null, .null]), (q1, aI G.2.2.1 (128) (fun _ => 0)), (q2, aI G.2.1 (128) (fun _ => 0)), (q3, aI G.2.1 (128) (fun _ => 0)), (q4, aI G.2.1 (128) (fun _ => 0)), (q5, aI G.2.2.1 (128) (fun _ => 0)), (q6, aI G.2.1 (128) (fun _ => 0)), (q7, aI G.2.1 (128) (fun _ => 0)), (q8, aI G.2.1 (128) (fun _ => 0)), (q9, aI G.2.2.1 (128) (fun _ => 0)), (q10, aI G.2.1 (128) (fun _ => 0))]) rfl ?_
  refine e_putF C hn 0 (k := 17) in_M tk_M nm_M g761 d_M_init_96 rfl rfl rfl rfl rfl rfl rfl rfl rfl ?_
  refine e_eq (ws' := [(b, ob 11 [.int 0, .int 0, .int 0, .int 0, .int 0, .int 0, .int (1), .ref q1, .ref q2, .ref q3, .ref q4, .ref q5, .int 0, .ref q6, .ref q7, .ref q8, .ref q9, .ref q10, .null, .null, .int 0, .int 0, .null, .null, .null, .int 0, .null, .null, .int 0, .null, .null, .int 0, .null, .null, .null, .null]), (q1, aI G.2.2.1 (128) (fun _ => 0)), (q2, aI G.2.1 (128) (fun _ => 0)), (q3, aI G.2.1 (128) (fun _ => 0)), (q4, aI G.2.1 (128) (fun _ => 0)), (q5, aI G.2.2.1 (128) (fun _ => 0)), (q6, aI G.2.1 (128) (fun _ => 0)), (q7, aI G.2.1 (128) (fun _ => 0)), (q8, aI G.2.1 (128) (fun _ => 0)), (q9, aI G.2.2.1 (128) (fun _ => 0)), (q10, aI G.2.1 (128) (fun _ => 0))]) rfl ?_
  refine e_aload_n C d_M_init_99 rfl ?_
  refine e_bipush C d_M_init_100 (v := nI 16) (by decide) ?_
  refine e_newa C 0 g73 rfl rfl (fun _ h => h) rfl (by decide) (16) d_M_init_102 rfl (by omega) (by rw [hR]; show _ ≤ 23; omega) (by rw [hR]; show _ ≤ 1650; omega) (fun q11 => ?_)
  refine e_eq (ws' := [(b, ob 11 [.int 0, .int 0, .int 0, .int 0, .int 0, .int 0, .int (1), .ref q1, .ref q2, .ref q3, .ref q4, .ref q5, .int 0, .ref q6, .ref q7, .ref q8, .ref q9, .ref q10, .null, .null, .int 0, .int 0, .null, .null, .null, .int 0, .null, .null, .int 0, .null, .null, .int 0, .null, .null, .null, .null]), (q1, aI G.2.2.1 (128) (fun _ => 0)), (q2, aI G.2.1 (128) (fun _ => 0)), (q3, aI G.2.1 (128) (fun _ => 0)), (q4, aI G.2.1 (128) (fun _ => 0)), (q5, aI G.2.2.1 (128) (fun _ => 0)), (q6, aI G.2.1 (128) (fun _ => 0)), (q7, aI G.2.1 (128) (fun _ => 0)), (q8, aI G.2.1 (128) (fun _ => 0)), (q9, aI G.2.2.1 (128) (fun _ => 0)), (q10, aI G.2.1 (128) (fun _ => 0)), (q11, aI G.2.1 (16) (fun _ => 0))]) rfl ?_
  refine e_putF C hn 0 (k := 18) in_M tk_M nm_M g762 d_M_init_104 rfl rfl rfl rfl rfl rfl rfl rfl rfl ?_
  refine e_eq (ws' := [(b, ob 11 [.int 0, .int 0, .int 0, .int 0, .int 0, .int 0, .int (1), .ref q1, .ref q2, .ref q3, .ref q4, .ref q5, .int 0, .ref q6, .ref q7, .ref q8, .ref q9, .ref q10, .ref q11, .null, .int 0, .int 0, .null, .null, .null, .int 0, .null, .null, .int 0, .null, .null, .int 0, .null, .null, .null, .null]), (q1, aI G.2.2.1 (128) (fun _ => 0)), (q2, aI G.2.1 (128) (fun _ => 0)), (q3, aI G.2.1 (128) (fun _ => 0)), (q4, aI G.2.1 (128) (fun _ => 0)), (q5, aI G.2.2.1 (128) (fun _ => 0)), (q6, aI G.2.1 (128) (fun _ => 0)), (q7, aI G.2.1 (128) (fun _ => 0)), (q8, aI G.2.1 (128) (fun _ => 0)), (q9, aI G.2.2.1 (128) (fun _ => 0)), (q10, aI G.2.1 (128) (fun _ => 0)), (q11, aI G.2.1 (16) (fun _ => 0))]) rfl ?_
  refine e_aload_n C d_M_init_107 rfl ?_
  refine e_sipush C d_M_init_108 (v := nI 128) (by decide) ?_
  refine e_newa C 1 g74 rfl rfl (fun _ h => h) rfl (by decide) (128) d_M_init_111 rfl (by omega) (by rw [hR]; show _ ≤ 23; omega) (by rw [hR]; show _ ≤ 1650; omega) (fun q12 => ?_)
  refine e_eq (ws' := [(b, ob 11 [.int 0, .int 0, .int 0, .int 0, .int 0, .int 0, .int (1), .ref q1, .ref q2, .ref q3, .ref q4, .ref q5, .int 0, .ref q6, .ref q7, .ref q8, .ref q9, .ref q10, .ref q11, .null, .int 0, .int 0, .null, .null, .null, .int 0, .null, .null, .int 0, .null, .null, .int 0, .null, .null, .null, .null]), (q1, aI G.2.2.1 (128) (fun _ => 0)), (q2, aI G.2.1 (128) (fun _ => 0)), (q3, aI G.2.1 (128) (fun _ => 0)), (q4, aI G.2.1 (128) (fun _ => 0)), (q5, aI G.2.2.1 (128) (fun _ => 0)), (q6, aI G.2.1 (128) (fun _ => 0)), (q7, aI G.2.1 (128) (fun _ => 0)), (q8, aI G.2.1 (128) (fun _ => 0)), (q9, aI G.2.2.1 (128) (fun _ => 0)), (q10, aI G.2.1 (128) (fun _ => 0)), (q11, aI G.2.1 (16) (fun _ => 0)), (q12, aI G.2.2.1 (128) (fun _ => 0))]) rfl ?_
  refine e_putF C hn 0 (k := 19) in_M tk_M nm_M g763 d_M_init_113 rfl rfl rfl rfl rfl rfl rfl rfl rfl ?_
  refine e_eq (ws' := [(b, ob 11 [.int 0, .int 0, .int 0, .int 0, .int 0, .int 0, .int (1), .ref q1, .ref q2, .ref q3, .ref q4, .ref q5, .int 0, .ref q6, .ref q7, .ref q8, .ref q9, .ref q10, .ref q11, .ref q12, .int 0, .int 0, .null, .null, .null, .int 0, .null, .null, .int 0, .null, .null, .int 0, .null, .null, .null, .null]), (q1, aI G.2.2.1 (128) (fun _ => 0)), (q2, aI G.2.1 (128) (fun _ => 0)), (q3, aI G.2.1 (128) (fun _ => 0)), (q4, aI G.2.1 (128) (fun _ => 0)), (q5, aI G.2.2.1 (128) (fun _ => 0)), (q6, aI G.2.1 (128) (fun _ => 0)), (q7, aI G.2.1 (128) (fun _ => 0)), (q8, aI G.2.1 (128) (fun _ => 0)), (q9, aI G.2.2.1 (128) (fun _ => 0)), (q10, aI G.2.1 (128) (fun _ => 0)), (q11, aI G.2.1 (16) (fun _ => 0)), (q12, aI G.2.2.1 (128) (fun _ => 0))]) rfl ?_
  refine e_aload_n C d_M_init_116 rfl ?_
  refine e_iconst C d_M_init_117 (v := 1) (by decide) ?_
  refine e_put C 0 (k := 20) in_M tk_M nm_M g764 d_M_init_118 rfl rfl rfl rfl rfl rfl rfl rfl ?_
  refine e_eq (ws' := [(b, ob 11 [.int 0, .int 0, .int 0, .int 0, .int 0, .int 0, .int (1), .ref q1, .ref q2, .ref q3, .ref q4, .ref q5, .int 0, .ref q6, .ref q7, .ref q8, .ref q9, .ref q10, .ref q11, .ref q12, .int (1), .int 0, .null, .null, .null, .int 0, .null, .null, .int 0, .null, .null, .int 0, .null, .null, .null, .null]), (q1, aI G.2.2.1 (128) (fun _ => 0)), (q2, aI G.2.1 (128) (fun _ => 0)), (q3, aI G.2.1 (128) (fun _ => 0)), (q4, aI G.2.1 (128) (fun _ => 0)), (q5, aI G.2.2.1 (128) (fun _ => 0)), (q6, aI G.2.1 (128) (fun _ => 0)), (q7, aI G.2.1 (128) (fun _ => 0)), (q8, aI G.2.1 (128) (fun _ => 0)), (q9, aI G.2.2.1 (128) (fun _ => 0)), (q10, aI G.2.1 (128) (fun _ => 0)), (q11, aI G.2.1 (16) (fun _ => 0)), (q12, aI G.2.2.1 (128) (fun _ => 0))]) rfl ?_
  refine e_aload_n C d_M_init_121 rfl ?_
  refine e_iconst C d_M_init_122 (v := nI 5) (by decide) ?_
  refine e_newa C 0 g73 rfl rfl (fun _ h => h) rfl (by decide) (5) d_M_init_123 rfl (by omega) (by rw [hR]; show _ ≤ 23; omega) (by rw [hR]; show _ ≤ 1650; omega) (fun q13 => ?_)
  refine e_eq (ws' := [(b, ob 11 [.int 0, .int 0, .int 0, .int 0, .int 0, .int 0, .int (1), .ref q1, .ref q2, .ref q3, .ref q4, .ref q5, .int 0, .ref q6, .ref q7, .ref q8, .ref q9, .ref q10, .ref q11, .ref q12, .int (1), .int 0, .null, .null, .null, .int 0, .null, .null, .int 0, .null, .null, .int 0, .null, .null, .null, .null]), (q1, aI G.2.2.1 (128) (fun _ => 0)), (q2, aI G.2.1 (128) (fun _ => 0)), (q3, aI G.2.1 (128) (fun _ => 0)), (q4, aI G.2.1 (128) (fun _ => 0)), (q5, aI G.2.2.1 (128) (fun _ => 0)), (q6, aI G.2.1 (128) (fun _ => 0)), (q7, aI G.2.1 (128) (fun _ => 0)), (q8, aI G.2.1 (128) (fun _ => 0)), (q9, aI G.2.2.1 (128) (fun _ => 0)), (q10, aI G.2.1 (128) (fun _ => 0)), (q11, aI G.2.1 (16) (fun _ => 0)), (q12, aI G.2.2.1 (128) (fun _ => 0)), (q13, aI G.2.1 (5) (fun _ => 0))]) rfl ?_
  refine e_putF C hn 0 (k := 22) in_M tk_M nm_M g766 d_M_init_125 rfl rfl rfl rfl rfl rfl rfl rfl rfl ?_
  refine e_eq (ws' := [(b, ob 11 [.int 0, .int 0, .int 0, .int 0, .int 0, .int 0, .int (1), .ref q1, .ref q2, .ref q3, .ref q4, .ref q5, .int 0, .ref q6, .ref q7, .ref q8, .ref q9, .ref q10, .ref q11, .ref q12, .int (1), .int 0, .ref q13, .null, .null, .int 0, .null, .null, .int 0, .null, .null, .int 0, .null, .null, .null, .null]), (q1, aI G.2.2.1 (128) (fun _ => 0)), (q2, aI G.2.1 (128) (fun _ => 0)), (q3, aI G.2.1 (128) (fun _ => 0)), (q4, aI G.2.1 (128) (fun _ => 0)), (q5, aI G.2.2.1 (128) (fun _ => 0)), (q6, aI G.2.1 (128) (fun _ => 0)), (q7, aI G.2.1 (128) (fun _ => 0)), (q8, aI G.2.1 (128) (fun _ => 0)), (q9, aI G.2.2.1 (128) (fun _ => 0)), (q10, aI G.2.1 (128) (fun _ => 0)), (q11, aI G.2.1 (16) (fun _ => 0)), (q12, aI G.2.2.1 (128) (fun _ => 0)), (q13, aI G.2.1 (5) (fun _ => 0))]) rfl ?_
  refine e_aload_n C d_M_init_128 rfl ?_
  refine e_iconst C d_M_init_129 (v := nI 5) (by decide) ?_
  refine e_newa C 0 g73 rfl rfl (fun _ h => h) rfl (by decide) (5) d_M_init_130 rfl (by omega) (by rw [hR]; show _ ≤ 23; omega) (by rw [hR]; show _ ≤ 1650; omega) (fun q14 => ?_)
  refine e_eq (ws' := [(b, ob 11 [.int 0, .int 0, .int 0, .int 0, .int 0, .int 0, .int (1), .ref q1, .ref q2, .ref q3, .ref q4, .ref q5, .int 0, .ref q6, .ref q7, .ref q8, .ref q9, .ref q10, .ref q11, .ref q12, .int (1), .int 0, .ref q13, .null, .null, .int 0, .null, .null, .int 0, .null, .null, .int 0, .null, .null, .null, .null]), (q1, aI G.2.2.1 (128) (fun _ => 0)), (q2, aI G.2.1 (128) (fun _ => 0)), (q3, aI G.2.1 (128) (fun _ => 0)), (q4, aI G.2.1 (128) (fun _ => 0)), (q5, aI G.2.2.1 (128) (fun _ => 0)), (q6, aI G.2.1 (128) (fun _ => 0)), (q7, aI G.2.1 (128) (fun _ => 0)), (q8, aI G.2.1 (128) (fun _ => 0)), (q9, aI G.2.2.1 (128) (fun _ => 0)), (q10, aI G.2.1 (128) (fun _ => 0)), (q11, aI G.2.1 (16) (fun _ => 0)), (q12, aI G.2.2.1 (128) (fun _ => 0)), (q13, aI G.2.1 (5) (fun _ => 0)), (q14, aI G.2.1 (5) (fun _ => 0))]) rfl ?_
  refine e_putF C hn 0 (k := 23) in_M tk_M nm_M g767 d_M_init_132 rfl rfl rfl rfl rfl rfl rfl rfl rfl ?_
  refine e_eq (ws' := [(b, ob 11 [.int 0, .int 0, .int 0, .int 0, .int 0, .int 0, .int (1), .ref q1, .ref q2, .ref q3, .ref q4, .ref q5, .int 0, .ref q6, .ref q7, .ref q8, .ref q9, .ref q10, .ref q11, .ref q12, .int (1), .int 0, .ref q13, .ref q14, .null, .int 0, .null, .null, .int 0, .null, .null, .int 0, .null, .null, .null, .null]), (q1, aI G.2.2.1 (128) (fun _ => 0)), (q2, aI G.2.1 (128) (fun _ => 0)), (q3, aI G.2.1 (128) (fun _ => 0)), (q4, aI G.2.1 (128) (fun _ => 0)), (q5, aI G.2.2.1 (128) (fun _ => 0)), (q6, aI G.2.1 (128) (fun _ => 0)), (q7, aI G.2.1 (128) (fun _ => 0)), (q8, aI G.2.1 (128) (fun _ => 0)), (q9, aI G.2.2.1 (128) (fun _ => 0)), (q10, aI G.2.1 (128) (fun _ => 0)), (q11, aI G.2.1 (16) (fun _ => 0)), (q12, aI G.2.2.1 (128) (fun _ => 0)), (q13, aI G.2.1 (5) (fun _ => 0)), (q14, aI G.2.1 (5) (fun _ => 0))]) rfl ?_
  refine e_aload_n C d_M_init_135 rfl ?_
  refine e_iconst C d_M_init_136 (v := nI 5) (by decide) ?_
  refine e_newa C 0 g73 rfl rfl (fun _ h => h) rfl (by decide) (5) d_M_init_137 rfl (by omega) (by rw [hR]; show _ ≤ 23; omega) (by rw [hR]; show _ ≤ 1650; omega) (fun q15 => ?_)
  refine e_eq (ws' := [(b, ob 11 [.int 0, .int 0, .int 0, .int 0, .int 0, .int 0, .int (1), .ref q1, .ref q2, .ref q3, .ref q4, .ref q5, .int 0, .ref q6, .ref q7, .ref q8, .ref q9, .ref q10, .ref q11, .ref q12, .int (1), .int 0, .ref q13, .ref q14, .null, .int 0, .null, .null, .int 0, .null, .null, .int 0, .null, .null, .null, .null]), (q1, aI G.2.2.1 (128) (fun _ => 0)), (q2, aI G.2.1 (128) (fun _ => 0)), (q3, aI G.2.1 (128) (fun _ => 0)), (q4, aI G.2.1 (128) (fun _ => 0)), (q5, aI G.2.2.1 (128) (fun _ => 0)), (q6, aI G.2.1 (128) (fun _ => 0)), (q7, aI G.2.1 (128) (fun _ => 0)), (q8, aI G.2.1 (128) (fun _ => 0)), (q9, aI G.2.2.1 (128) (fun _ => 0)), (q10, aI G.2.1 (128) (fun _ => 0)), (q11, aI G.2.1 (16) (fun _ => 0)), (q12, aI G.2.2.1 (128) (fun _ => 0)), (q13, aI G.2.1 (5) (fun _ => 0)), (q14, aI G.2.1 (5) (fun _ => 0)), (q15, aI G.2.1 (5) (fun _ => 0))]) rfl ?_
  refine e_putF C hn 0 (k := 24) in_M tk_M nm_M g768 d_M_init_139 rfl rfl rfl rfl rfl rfl rfl rfl rfl ?_
  refine e_eq (ws' := [(b, ob 11 [.int 0, .int 0, .int 0, .int 0, .int 0, .int 0, .int (1), .ref q1, .ref q2, .ref q3, .ref q4, .ref q5, .int 0, .ref q6, .ref q7, .ref q8, .ref q9, .ref q10, .ref q11, .ref q12, .int (1), .int 0, .ref q13, .ref q14, .ref q15, .int 0, .null, .null, .int 0, .null, .null, .int 0, .null, .null, .null, .null]), (q1, aI G.2.2.1 (128) (fun _ => 0)), (q2, aI G.2.1 (128) (fun _ => 0)), (q3, aI G.2.1 (128) (fun _ => 0)), (q4, aI G.2.1 (128) (fun _ => 0)), (q5, aI G.2.2.1 (128) (fun _ => 0)), (q6, aI G.2.1 (128) (fun _ => 0)), (q7, aI G.2.1 (128) (fun _ => 0)), (q8, aI G.2.1 (128) (fun _ => 0)), (q9, aI G.2.2.1 (128) (fun _ => 0)), (q10, aI G.2.1 (128) (fun _ => 0)), (q11, aI G.2.1 (16) (fun _ => 0)), (q12, aI G.2.2.1 (128) (fun _ => 0)), (q13, aI G.2.1 (5) (fun _ => 0)), (q14, aI G.2.1 (5) (fun _ => 0)), (q15, aI G.2.1 (5) (fun _ => 0))]) rfl ?_
  refine e_aload_n C d_M_init_142 rfl ?_
  refine e_bipush C d_M_init_143 (v := nI 16) (by decide) ?_
  refine e_newa C 0 g73 rfl rfl (fun _ h => h) rfl (by decide) (16) d_M_init_145 rfl (by omega) (by rw [hR]; show _ ≤ 23; omega) (by rw [hR]; show _ ≤ 1650; omega) (fun q16 => ?_)
  refine e_eq (ws' := [(b, ob 11 [.int 0, .int 0, .int 0, .int 0, .int 0, .int 0, .int (1), .ref q1, .ref q2, .ref q3, .ref q4, .ref q5, .int 0, .ref q6, .ref q7, .ref q8, .ref q9, .ref q10, .ref q11, .ref q12, .int (1), .int 0, .ref q13, .ref q14, .ref q15, .int 0, .null, .null, .int 0, .null, .null, .int 0, .null, .null, .null, .null]), (q1, aI G.2.2.1 (128) (fun _ => 0)), (q2, aI G.2.1 (128) (fun _ => 0)), (q3, aI G.2.1 (128) (fun _ => 0)), (q4, aI G.2.1 (128) (fun _ => 0)), (q5, aI G.2.2.1 (128) (fun _ => 0)), (q6, aI G.2.1 (128) (fun _ => 0)), (q7, aI G.2.1 (128) (fun _ => 0)), (q8, aI G.2.1 (128) (fun _ => 0)), (q9, aI G.2.2.1 (128) (fun _ => 0)), (q10, aI G.2.1 (128) (fun _ => 0)), (q11, aI G.2.1 (16) (fun _ => 0)), (q12, aI G.2.2.1 (128) (fun _ => 0)), (q13, aI G.2.1 (5) (fun _ => 0)), (q14, aI G.2.1 (5) (fun _ => 0)), (q15, aI G.2.1 (5) (fun _ => 0)), (q16, aI G.2.1 (16) (fun _ => 0))]) rfl ?_
  refine e_putF C hn 0 (k := 26) in_M tk_M nm_M g770 d_M_init_147 rfl rfl rfl rfl rfl rfl rfl rfl rfl ?_
  refine e_eq (ws' := [(b, ob 11 [.int 0, .int 0, .int 0, .int 0, .int 0, .int 0, .int (1), .ref q1, .ref q2, .ref q3, .ref q4, .ref q5, .int 0, .ref q6, .ref q7, .ref q8, .ref q9, .ref q10, .ref q11, .ref q12, .int (1), .int 0, .ref q13, .ref q14, .ref q15, .int 0, .ref q16, .null, .int 0, .null, .null, .int 0, .null, .null, .null, .null]), (q1, aI G.2.2.1 (128) (fun _ => 0)), (q2, aI G.2.1 (128) (fun _ => 0)), (q3, aI G.2.1 (128) (fun _ => 0)), (q4, aI G.2.1 (128) (fun _ => 0)), (q5, aI G.2.2.1 (128) (fun _ => 0)), (q6, aI G.2.1 (128) (fun _ => 0)), (q7, aI G.2.1 (128) (fun _ => 0)), (q8, aI G.2.1 (128) (fun _ => 0)), (q9, aI G.2.2.1 (128) (fun _ => 0)), (q10, aI G.2.1 (128) (fun _ => 0)), (q11, aI G.2.1 (16) (fun _ => 0)), (q12, aI G.2.2.1 (128) (fun _ => 0)), (q13, aI G.2.1 (5) (fun _ => 0)), (q14, aI G.2.1 (5) (fun _ => 0)), (q15, aI G.2.1 (5) (fun _ => 0)), (q16, aI G.2.1 (16) (fun _ => 0))]) rfl ?_
  refine e_aload_n C d_M_init_150 rfl ?_
  refine e_bipush C d_M_init_151 (v := nI 16) (by decide) ?_
  refine e_newa C 0 g73 rfl rfl (fun _ h => h) rfl (by decide) (16) d_M_init_153 rfl (by omega) (by rw [hR]; show _ ≤ 23; omega) (by rw [hR]; show _ ≤ 1650; omega) (fun q17 => ?_)
  refine e_eq (ws' := [(b, ob 11 [.int 0, .int 0, .int 0, .int 0, .int 0, .int 0, .int (1), .ref q1, .ref q2, .ref q3, .ref q4, .ref q5, .int 0, .ref q6, .ref q7, .ref q8, .ref q9, .ref q10, .ref q11, .ref q12, .int (1), .int 0, .ref q13, .ref q14, .ref q15, .int 0, .ref q16, .null, .int 0, .null, .null, .int 0, .null, .null, .null, .null]), (q1, aI G.2.2.1 (128) (fun _ => 0)), (q2, aI G.2.1 (128) (fun _ => 0)), (q3, aI G.2.1 (128) (fun _ => 0)), (q4, aI G.2.1 (128) (fun _ => 0)), (q5, aI G.2.2.1 (128) (fun _ => 0)), (q6, aI G.2.1 (128) (fun _ => 0)), (q7, aI G.2.1 (128) (fun _ => 0)), (q8, aI G.2.1 (128) (fun _ => 0)), (q9, aI G.2.2.1 (128) (fun _ => 0)), (q10, aI G.2.1 (128) (fun _ => 0)), (q11, aI G.2.1 (16) (fun _ => 0)), (q12, aI G.2.2.1 (128) (fun _ => 0)), (q13, aI G.2.1 (5) (fun _ => 0)), (q14, aI G.2.1 (5) (fun _ => 0)), (q15, aI G.2.1 (5) (fun _ => 0)), (q16, aI G.2.1 (16) (fun _ => 0)), (q17, aI G.2.1 (16) (fun _ => 0))]) rfl ?_
  refine e_putF C hn 0 (k := 27) in_M tk_M nm_M g771 d_M_init_155 rfl rfl rfl rfl rfl rfl rfl rfl rfl ?_
  refine e_eq (ws' := [(b, ob 11 [.int 0, .int 0, .int 0, .int 0, .int 0, .int 0, .int (1), .ref q1, .ref q2, .ref q3, .ref q4, .ref q5, .int 0, .ref q6, .ref q7, .ref q8, .ref q9, .ref q10, .ref q11, .ref q12, .int (1), .int 0, .ref q13, .ref q14, .ref q15, .int 0, .ref q16, .ref q17, .int 0, .null, .null, .int 0, .null, .null, .null, .null]), (q1, aI G.2.2.1 (128) (fun _ => 0)), (q2, aI G.2.1 (128) (fun _ => 0)), (q3, aI G.2.1 (128) (fun _ => 0)), (q4, aI G.2.1 (128) (fun _ => 0)), (q5, aI G.2.2.1 (128) (fun _ => 0)), (q6, aI G.2.1 (128) (fun _ => 0)), (q7, aI G.2.1 (128) (fun _ => 0)), (q8, aI G.2.1 (128) (fun _ => 0)), (q9, aI G.2.2.1 (128) (fun _ => 0)), (q10, aI G.2.1 (128) (fun _ => 0)), (q11, aI G.2.1 (16) (fun _ => 0)), (q12, aI G.2.2.1 (128) (fun _ => 0)), (q13, aI G.2.1 (5) (fun _ => 0)), (q14, aI G.2.1 (5) (fun _ => 0)), (q15, aI G.2.1 (5) (fun _ => 0)), (q16, aI G.2.1 (16) (fun _ => 0)), (q17, aI G.2.1 (16) (fun _ => 0))]) rfl ?_
  refine e_aload_n C d_M_init_158 rfl ?_
  refine e_bipush C d_M_init_159 (v := nI 16) (by decide) ?_
  refine e_newa C 0 g73 rfl rfl (fun _ h => h) rfl (by decide) (16) d_M_init_161 rfl (by omega) (by rw [hR]; show _ ≤ 23; omega) (by rw [hR]; show _ ≤ 1650; omega) (fun q18 => ?_)
  refine e_eq (ws' := [(b, ob 11 [.int 0, .int 0, .int 0, .int 0, .int 0, .int 0, .int (1), .ref q1, .ref q2, .ref q3, .ref q4, .ref q5, .int 0, .ref q6, .ref q7, .ref q8, .ref q9, .ref q10, .ref q11, .ref q12, .int (1), .int 0, .ref q13, .ref q14, .ref q15, .int 0, .ref q16, .ref q17, .int 0, .null, .null, .int 0, .null, .null, .null, .null]), (q1, aI G.2.2.1 (128) (fun _ => 0)), (q2, aI G.2.1 (128) (fun _ => 0)), (q3, aI G.2.1 (128) (fun _ => 0)), (q4, aI G.2.1 (128) (fun _ => 0)), (q5, aI G.2.2.1 (128) (fun _ => 0)), (q6, aI G.2.1 (128) (fun _ => 0)), (q7, aI G.2.1 (128) (fun _ => 0)), (q8, aI G.2.1 (128) (fun _ => 0)), (q9, aI G.2.2.1 (128) (fun _ => 0)), (q10, aI G.2.1 (128) (fun _ => 0)), (q11, aI G.2.1 (16) (fun _ => 0)), (q12, aI G.2.2.1 (128) (fun _ => 0)), (q13, aI G.2.1 (5) (fun _ => 0)), (q14, aI G.2.1 (5) (fun _ => 0)), (q15, aI G.2.1 (5) (fun _ => 0)), (q16, aI G.2.1 (16) (fun _ => 0)), (q17, aI G.2.1 (16) (fun _ => 0)), (q18, aI G.2.1 (16) (fun _ => 0))]) rfl ?_
  refine e_putF C hn 0 (k := 29) in_M tk_M nm_M g773 d_M_init_163 rfl rfl rfl rfl rfl rfl rfl rfl rfl ?_
  refine e_eq (ws' := [(b, ob 11 [.int 0, .int 0, .int 0, .int 0, .int 0, .int 0, .int (1), .ref q1, .ref q2, .ref q3, .ref q4, .ref q5, .int 0, .ref q6, .ref q7, .ref q8, .ref q9, .ref q10, .ref q11, .ref q12, .int (1), .int 0, .ref q13, .ref q14, .ref q15, .int 0, .ref q16, .ref q17, .int 0, .ref q18, .null, .int 0, .null, .null, .null, .null]), (q1, aI G.2.2.1 (128) (fun _ => 0)), (q2, aI G.2.1 (128) (fun _ => 0)), (q3, aI G.2.1 (128) (fun _ => 0)), (q4, aI G.2.1 (128) (fun _ => 0)), (q5, aI G.2.2.1 (128) (fun _ => 0)), (q6, aI G.2.1 (128) (fun _ => 0)), (q7, aI G.2.1 (128) (fun _ => 0)), (q8, aI G.2.1 (128) (fun _ => 0)), (q9, aI G.2.2.1 (128) (fun _ => 0)), (q10, aI G.2.1 (128) (fun _ => 0)), (q11, aI G.2.1 (16) (fun _ => 0)), (q12, aI G.2.2.1 (128) (fun _ => 0)), (q13, aI G.2.1 (5) (fun _ => 0)), (q14, aI G.2.1 (5) (fun _ => 0)), (q15, aI G.2.1 (5) (fun _ => 0)), (q16, aI G.2.1 (16) (fun _ => 0)), (q17, aI G.2.1 (16) (fun _ => 0)), (q18, aI G.2.1 (16) (fun _ => 0))]) rfl ?_
  refine e_aload_n C d_M_init_166 rfl ?_
  refine e_bipush C d_M_init_167 (v := nI 16) (by decide) ?_
  refine e_newa C 0 g73 rfl rfl (fun _ h => h) rfl (by decide) (16) d_M_init_169 rfl (by omega) (by rw [hR]; show _ ≤ 23; omega) (by rw [hR]; show _ ≤ 1650; omega) (fun q19 => ?_)
  refine e_eq (ws' := [(b, ob 11 [.int 0, .int 0, .int 0, .int 0, .int 0, .int 0, .int (1), .ref q1, .ref q2, .ref q3, .ref q4, .ref q5, .int 0, .ref q6, .ref q7, .ref q8, .ref q9, .ref q10, .ref q11, .ref q12, .int (1), .int 0, .ref q13, .ref q14, .ref q15, .int 0, .ref q16, .ref q17, .int 0, .ref q18, .null, .int 0, .null, .null, .null, .null]), (q1, aI G.2.2.1 (128) (fun _ => 0)), (q2, aI G.2.1 (128) (fun _ => 0)), (q3, aI G.2.1 (128) (fun _ => 0)), (q4, aI G.2.1 (128) (fun _ => 0)), (q5, aI G.2.2.1 (128) (fun _ => 0)), (q6, aI G.2.1 (128) (fun _ => 0)), (q7, aI G.2.1 (128) (fun _ => 0)), (q8, aI G.2.1 (128) (fun _ => 0)), (q9, aI G.2.2.1 (128) (fun _ => 0)), (q10, aI G.2.1 (128) (fun _ => 0)), (q11, aI G.2.1 (16) (fun _ => 0)), (q12, aI G.2.2.1 (128) (fun _ => 0)), (q13, aI G.2.1 (5) (fun _ => 0)), (q14, aI G.2.1 (5) (fun _ => 0)), (q15, aI G.2.1 (5) (fun _ => 0)), (q16, aI G.2.1 (16) (fun _ => 0)), (q17, aI G.2.1 (16) (fun _ => 0)), (q18, aI G.2.1 (16) (fun _ => 0)), (q19, aI G.2.1 (16) (fun _ => 0))]) rfl ?_
  refine e_putF C hn 0 (k := 30) in_M tk_M nm_M g774 d_M_init_171 rfl rfl rfl rfl rfl rfl rfl rfl rfl ?_
  refine e_eq (ws' := [(b, ob 11 [.int 0, .int 0, .int 0, .int 0, .int 0, .int 0, .int (1), .ref q1, .ref q2, .ref q3, .ref q4, .ref q5, .int 0, .ref q6, .ref q7, .ref q8, .ref q9, .ref q10, .ref q11, .ref q12, .int (1), .int 0, .ref q13, .ref q14, .ref q15, .int 0, .ref q16, .ref q17, .int 0, .ref q18, .ref q19, .int 0, .null, .null, .null, .null]), (q1, aI G.2.2.1 (128) (fun _ => 0)), (q2, aI G.2.1 (128) (fun _ => 0)), (q3, aI G.2.1 (128) (fun _ => 0)), (q4, aI G.2.1 (128) (fun _ => 0)), (q5, aI G.2.2.1 (128) (fun _ => 0)), (q6, aI G.2.1 (128) (fun _ => 0)), (q7, aI G.2.1 (128) (fun _ => 0)), (q8, aI G.2.1 (128) (fun _ => 0)), (q9, aI G.2.2.1 (128) (fun _ => 0)), (q10, aI G.2.1 (128) (fun _ => 0)), (q11, aI G.2.1 (16) (fun _ => 0)), (q12, aI G.2.2.1 (128) (fun _ => 0)), (q13, aI G.2.1 (5) (fun _ => 0)), (q14, aI G.2.1 (5) (fun _ => 0)), (q15, aI G.2.1 (5) (fun _ => 0)), (q16, aI G.2.1 (16) (fun _ => 0)), (q17, aI G.2.1 (16) (fun _ => 0)), (q18, aI G.2.1 (16) (fun _ => 0)), (q19, aI G.2.1 (16) (fun _ => 0))]) rfl ?_
  refine e_aload_n C d_M_init_174 rfl ?_
  refine e_bipush C d_M_init_175 (v := nI 65) (by decide) ?_
  refine e_newa C 0 g73 rfl rfl (fun _ h => h) rfl (by decide) (65) d_M_init_177 rfl (by omega) (by rw [hR]; show _ ≤ 23; omega) (by rw [hR]; show _ ≤ 1650; omega) (fun q20 => ?_)
  refine e_eq (ws' := [(b, ob 11 [.int 0, .int 0, .int 0, .int 0, .int 0, .int 0, .int (1), .ref q1, .ref q2, .ref q3, .ref q4, .ref q5, .int 0, .ref q6, .ref q7, .ref q8, .ref q9, .ref q10, .ref q11, .ref q12, .int (1), .int 0, .ref q13, .ref q14, .ref q15, .int 0, .ref q16, .ref q17, .int 0, .ref q18, .ref q19, .int 0, .null, .null, .null, .null]), (q1, aI G.2.2.1 (128) (fun _ => 0)), (q2, aI G.2.1 (128) (fun _ => 0)), (q3, aI G.2.1 (128) (fun _ => 0)), (q4, aI G.2.1 (128) (fun _ => 0)), (q5, aI G.2.2.1 (128) (fun _ => 0)), (q6, aI G.2.1 (128) (fun _ => 0)), (q7, aI G.2.1 (128) (fun _ => 0)), (q8, aI G.2.1 (128) (fun _ => 0)), (q9, aI G.2.2.1 (128) (fun _ => 0)), (q10, aI G.2.1 (128) (fun _ => 0)), (q11, aI G.2.1 (16) (fun _ => 0)), (q12, aI G.2.2.1 (128) (fun _ => 0)), (q13, aI G.2.1 (5) (fun _ => 0)), (q14, aI G.2.1 (5) (fun _ => 0)), (q15, aI G.2.1 (5) (fun _ => 0)), (q16, aI G.2.1 (16) (fun _ => 0)), (q17, aI G.2.1 (16) (fun _ => 0)), (q18, aI G.2.1 (16) (fun _ => 0)), (q19, aI G.2.1 (16) (fun _ => 0)), (q20, aI G.2.1 (65) (fun _ => 0))]) rfl ?_
  refine e_putF C hn 0 (k := 32) in_M tk_M nm_M g776 d_M_init_179 rfl rfl rfl rfl rfl rfl rfl rfl rfl ?_
  refine e_eq (ws' := [(b, ob 11 [.int 0, .int 0, .int 0, .int 0, .int 0, .int 0, .int (1), .ref q1, .ref q2, .ref q3, .ref q4, .ref q5, .int 0, .ref q6, .ref q7, .ref q8, .ref q9, .ref q10, .ref q11, .ref q12, .int (1), .int 0, .ref q13, .ref q14, .ref q15, .int 0, .ref q16, .ref q17, .int 0, .ref q18, .ref q19, .int 0, .ref q20, .null, .null, .null]), (q1, aI G.2.2.1 (128) (fun _ => 0)), (q2, aI G.2.1 (128) (fun _ => 0)), (q3, aI G.2.1 (128) (fun _ => 0)), (q4, aI G.2.1 (128) (fun _ => 0)), (q5, aI G.2.2.1 (128) (fun _ => 0)), (q6, aI G.2.1 (128) (fun _ => 0)), (q7, aI G.2.1 (128) (fun _ => 0)), (q8, aI G.2.1 (128) (fun _ => 0)), (q9, aI G.2.2.1 (128) (fun _ => 0)), (q10, aI G.2.1 (128) (fun _ => 0)), (q11, aI G.2.1 (16) (fun _ => 0)), (q12, aI G.2.2.1 (128) (fun _ => 0)), (q13, aI G.2.1 (5) (fun _ => 0)), (q14, aI G.2.1 (5) (fun _ => 0)), (q15, aI G.2.1 (5) (fun _ => 0)), (q16, aI G.2.1 (16) (fun _ => 0)), (q17, aI G.2.1 (16) (fun _ => 0)), (q18, aI G.2.1 (16) (fun _ => 0)), (q19, aI G.2.1 (16) (fun _ => 0)), (q20, aI G.2.1 (65) (fun _ => 0))]) rfl ?_
  refine e_aload_n C d_M_init_182 rfl ?_
  refine e_bipush C d_M_init_183 (v := nI 65) (by decide) ?_
  refine e_newa C 0 g73 rfl rfl (fun _ h => h) rfl (by decide) (65) d_M_init_185 rfl (by omega) (by rw [hR]; show _ ≤ 23; omega) (by rw [hR]; show _ ≤ 1650; omega) (fun q21 => ?_)
  refine e_eq (ws' := [(b, ob 11 [.int 0, .int 0, .int 0, .int 0, .int 0, .int 0, .int (1), .ref q1, .ref q2, .ref q3, .ref q4, .ref q5, .int 0, .ref q6, .ref q7, .ref q8, .ref q9, .ref q10, .ref q11, .ref q12, .int (1), .int 0, .ref q13, .ref q14, .ref q15, .int 0, .ref q16, .ref q17, .int 0, .ref q18, .ref q19, .int 0, .ref q20, .null, .null, .null]), (q1, aI G.2.2.1 (128) (fun _ => 0)), (q2, aI G.2.1 (128) (fun _ => 0)), (q3, aI G.2.1 (128) (fun _ => 0)), (q4, aI G.2.1 (128) (fun _ => 0)), (q5, aI G.2.2.1 (128) (fun _ => 0)), (q6, aI G.2.1 (128) (fun _ => 0)), (q7, aI G.2.1 (128) (fun _ => 0)), (q8, aI G.2.1 (128) (fun _ => 0)), (q9, aI G.2.2.1 (128) (fun _ => 0)), (q10, aI G.2.1 (128) (fun _ => 0)), (q11, aI G.2.1 (16) (fun _ => 0)), (q12, aI G.2.2.1 (128) (fun _ => 0)), (q13, aI G.2.1 (5) (fun _ => 0)), (q14, aI G.2.1 (5) (fun _ => 0)), (q15, aI G.2.1 (5) (fun _ => 0)), (q16, aI G.2.1 (16) (fun _ => 0)), (q17, aI G.2.1 (16) (fun _ => 0)), (q18, aI G.2.1 (16) (fun _ => 0)), (q19, aI G.2.1 (16) (fun _ => 0)), (q20, aI G.2.1 (65) (fun _ => 0)), (q21, aI G.2.1 (65) (fun _ => 0))]) rfl ?_
  refine e_putF C hn 0 (k := 33) in_M tk_M nm_M g777 d_M_init_187 rfl rfl rfl rfl rfl rfl rfl rfl rfl ?_
  refine e_eq (ws' := [(b, ob 11 [.int 0, .int 0, .int 0, .int 0, .int 0, .int 0, .int (1), .ref q1, .ref q2, .ref q3, .ref q4, .ref q5, .int 0, .ref q6, .ref q7, .ref q8, .ref q9, .ref q10, .ref q11, .ref q12, .int (1), .int 0, .ref q13, .ref q14, .ref q15, .int 0, .ref q16, .ref q17, .int 0, .ref q18, .ref q19, .int 0, .ref q20, .ref q21, .null, .null]), (q1, aI G.2.2.1 (128) (fun _ => 0)), (q2, aI G.2.1 (128) (fun _ => 0)), (q3, aI G.2.1 (128) (fun _ => 0)), (q4, aI G.2.1 (128) (fun _ => 0)), (q5, aI G.2.2.1 (128) (fun _ => 0)), (q6, aI G.2.1 (128) (fun _ => 0)), (q7, aI G.2.1 (128) (fun _ => 0)), (q8, aI G.2.1 (128) (fun _ => 0)), (q9, aI G.2.2.1 (128) (fun _ => 0)), (q10, aI G.2.1 (128) (fun _ => 0)), (q11, aI G.2.1 (16) (fun _ => 0)), (q12, aI G.2.2.1 (128) (fun _ => 0)), (q13, aI G.2.1 (5) (fun _ => 0)), (q14, aI G.2.1 (5) (fun _ => 0)), (q15, aI G.2.1 (5) (fun _ => 0)), (q16, aI G.2.1 (16) (fun _ => 0)), (q17, aI G.2.1 (16) (fun _ => 0)), (q18, aI G.2.1 (16) (fun _ => 0)), (q19, aI G.2.1 (16) (fun _ => 0)), (q20, aI G.2.1 (65) (fun _ => 0)), (q21, aI G.2.1 (65) (fun _ => 0))]) rfl ?_
  refine e_aload_n C d_M_init_190 rfl ?_
  refine e_bipush C d_M_init_191 (v := nI 9) (by decide) ?_
  refine e_newa C 0 g73 rfl rfl (fun _ h => h) rfl (by decide) (9) d_M_init_193 rfl (by omega) (by rw [hR]; show _ ≤ 23; omega) (by rw [hR]; show _ ≤ 1650; omega) (fun q22 => ?_)
  refine e_eq (ws' := [(b, ob 11 [.int 0, .int 0, .int 0, .int 0, .int 0, .int 0, .int (1), .ref q1, .ref q2, .ref q3, .ref q4, .ref q5, .int 0, .ref q6, .ref q7, .ref q8, .ref q9, .ref q10, .ref q11, .ref q12, .int (1), .int 0, .ref q13, .ref q14, .ref q15, .int 0, .ref q16, .ref q17, .int 0, .ref q18, .ref q19, .int 0, .ref q20, .ref q21, .null, .null]), (q1, aI G.2.2.1 (128) (fun _ => 0)), (q2, aI G.2.1 (128) (fun _ => 0)), (q3, aI G.2.1 (128) (fun _ => 0)), (q4, aI G.2.1 (128) (fun _ => 0)), (q5, aI G.2.2.1 (128) (fun _ => 0)), (q6, aI G.2.1 (128) (fun _ => 0)), (q7, aI G.2.1 (128) (fun _ => 0)), (q8, aI G.2.1 (128) (fun _ => 0)), (q9, aI G.2.2.1 (128) (fun _ => 0)), (q10, aI G.2.1 (128) (fun _ => 0)), (q11, aI G.2.1 (16) (fun _ => 0)), (q12, aI G.2.2.1 (128) (fun _ => 0)), (q13, aI G.2.1 (5) (fun _ => 0)), (q14, aI G.2.1 (5) (fun _ => 0)), (q15, aI G.2.1 (5) (fun _ => 0)), (q16, aI G.2.1 (16) (fun _ => 0)), (q17, aI G.2.1 (16) (fun _ => 0)), (q18, aI G.2.1 (16) (fun _ => 0)), (q19, aI G.2.1 (16) (fun _ => 0)), (q20, aI G.2.1 (65) (fun _ => 0)), (q21, aI G.2.1 (65) (fun _ => 0)), (q22, aI G.2.1 (9) (fun _ => 0))]) rfl ?_
  refine e_putF C hn 0 (k := 34) in_M tk_M nm_M g778 d_M_init_195 rfl rfl rfl rfl rfl rfl rfl rfl rfl ?_
  refine e_eq (ws' := [(b, ob 11 [.int 0, .int 0, .int 0, .int 0, .int 0, .int 0, .int (1), .ref q1, .ref q2, .ref q3, .ref q4, .ref q5, .int 0, .ref q6, .ref q7, .ref q8, .ref q9, .ref q10, .ref q11, .ref q12, .int (1), .int 0, .ref q13, .ref q14, .ref q15, .int 0, .ref q16, .ref q17, .int 0, .ref q18, .ref q19, .int 0, .ref q20, .ref q21, .ref q22, .null]), (q1, aI G.2.2.1 (128) (fun _ => 0)), (q2, aI G.2.1 (128) (fun _ => 0)), (q3, aI G.2.1 (128) (fun _ => 0)), (q4, aI G.2.1 (128) (fun _ => 0)), (q5, aI G.2.2.1 (128) (fun _ => 0)), (q6, aI G.2.1 (128) (fun _ => 0)), (q7, aI G.2.1 (128) (fun _ => 0)), (q8, aI G.2.1 (128) (fun _ => 0)), (q9, aI G.2.2.1 (128) (fun _ => 0)), (q10, aI G.2.1 (128) (fun _ => 0)), (q11, aI G.2.1 (16) (fun _ => 0)), (q12, aI G.2.2.1 (128) (fun _ => 0)), (q13, aI G.2.1 (5) (fun _ => 0)), (q14, aI G.2.1 (5) (fun _ => 0)), (q15, aI G.2.1 (5) (fun _ => 0)), (q16, aI G.2.1 (16) (fun _ => 0)), (q17, aI G.2.1 (16) (fun _ => 0)), (q18, aI G.2.1 (16) (fun _ => 0)), (q19, aI G.2.1 (16) (fun _ => 0)), (q20, aI G.2.1 (65) (fun _ => 0)), (q21, aI G.2.1 (65) (fun _ => 0)), (q22, aI G.2.1 (9) (fun _ => 0))]) rfl ?_
  refine e_aload_n C d_M_init_198 rfl ?_
  refine e_bipush C d_M_init_199 (v := nI 8) (by decide) ?_
  refine e_newa C 1 g74 rfl rfl (fun _ h => h) rfl (by decide) (8) d_M_init_201 rfl (by omega) (by rw [hR]; show _ ≤ 23; omega) (by rw [hR]; show _ ≤ 1650; omega) (fun q23 => ?_)
  refine e_eq (ws' := [(b, ob 11 [.int 0, .int 0, .int 0, .int 0, .int 0, .int 0, .int (1), .ref q1, .ref q2, .ref q3, .ref q4, .ref q5, .int 0, .ref q6, .ref q7, .ref q8, .ref q9, .ref q10, .ref q11, .ref q12, .int (1), .int 0, .ref q13, .ref q14, .ref q15, .int 0, .ref q16, .ref q17, .int 0, .ref q18, .ref q19, .int 0, .ref q20, .ref q21, .ref q22, .null]), (q1, aI G.2.2.1 (128) (fun _ => 0)), (q2, aI G.2.1 (128) (fun _ => 0)), (q3, aI G.2.1 (128) (fun _ => 0)), (q4, aI G.2.1 (128) (fun _ => 0)), (q5, aI G.2.2.1 (128) (fun _ => 0)), (q6, aI G.2.1 (128) (fun _ => 0)), (q7, aI G.2.1 (128) (fun _ => 0)), (q8, aI G.2.1 (128) (fun _ => 0)), (q9, aI G.2.2.1 (128) (fun _ => 0)), (q10, aI G.2.1 (128) (fun _ => 0)), (q11, aI G.2.1 (16) (fun _ => 0)), (q12, aI G.2.2.1 (128) (fun _ => 0)), (q13, aI G.2.1 (5) (fun _ => 0)), (q14, aI G.2.1 (5) (fun _ => 0)), (q15, aI G.2.1 (5) (fun _ => 0)), (q16, aI G.2.1 (16) (fun _ => 0)), (q17, aI G.2.1 (16) (fun _ => 0)), (q18, aI G.2.1 (16) (fun _ => 0)), (q19, aI G.2.1 (16) (fun _ => 0)), (q20, aI G.2.1 (65) (fun _ => 0)), (q21, aI G.2.1 (65) (fun _ => 0)), (q22, aI G.2.1 (9) (fun _ => 0)), (q23, aI G.2.2.1 (8) (fun _ => 0))]) rfl ?_
  refine e_putF C hn 0 (k := 35) in_M tk_M nm_M g779 d_M_init_203 rfl rfl rfl rfl rfl rfl rfl rfl rfl ?_
  refine e_eq (ws' := [(b, ob 11 [.int 0, .int 0, .int 0, .int 0, .int 0, .int 0, .int (1), .ref q1, .ref q2, .ref q3, .ref q4, .ref q5, .int 0, .ref q6, .ref q7, .ref q8, .ref q9, .ref q10, .ref q11, .ref q12, .int (1), .int 0, .ref q13, .ref q14, .ref q15, .int 0, .ref q16, .ref q17, .int 0, .ref q18, .ref q19, .int 0, .ref q20, .ref q21, .ref q22, .ref q23]), (q1, aI G.2.2.1 (128) (fun _ => 0)), (q2, aI G.2.1 (128) (fun _ => 0)), (q3, aI G.2.1 (128) (fun _ => 0)), (q4, aI G.2.1 (128) (fun _ => 0)), (q5, aI G.2.2.1 (128) (fun _ => 0)), (q6, aI G.2.1 (128) (fun _ => 0)), (q7, aI G.2.1 (128) (fun _ => 0)), (q8, aI G.2.1 (128) (fun _ => 0)), (q9, aI G.2.2.1 (128) (fun _ => 0)), (q10, aI G.2.1 (128) (fun _ => 0)), (q11, aI G.2.1 (16) (fun _ => 0)), (q12, aI G.2.2.1 (128) (fun _ => 0)), (q13, aI G.2.1 (5) (fun _ => 0)), (q14, aI G.2.1 (5) (fun _ => 0)), (q15, aI G.2.1 (5) (fun _ => 0)), (q16, aI G.2.1 (16) (fun _ => 0)), (q17, aI G.2.1 (16) (fun _ => 0)), (q18, aI G.2.1 (16) (fun _ => 0)), (q19, aI G.2.1 (16) (fun _ => 0)), (q20, aI G.2.1 (65) (fun _ => 0)), (q21, aI G.2.1 (65) (fun _ => 0)), (q22, aI G.2.1 (9) (fun _ => 0)), (q23, aI G.2.2.1 (8) (fun _ => 0))]) rfl ?_
  refine e_aload_n C d_M_init_206 rfl ?_
  refine e_iconst C d_M_init_207 (v := 1) (by decide) ?_
  refine e_iload_n C d_M_init_208 rfl ?_
  refine e_iconst C d_M_init_209 (v := nI 5) (by decide) ?_
  refine e_cSi C hR (k_modulo (by decide) (by decide)) g743 g14 g741 g742 d_M_init_210 rfl ey_M_modulo rfl rfl ⟨by rw [hR]; show _ ≤ 23; omega, by rw [hR]; show _ ≤ 1650; omega⟩ ?_
  refine e_ishl C d_M_init_213 ?_
  refine e_top (y := nI S) (by rw [hS]; exact i_shl (mdN_lt (by decide))) ?_
  refine e_putF C hn 0 (k := 1) in_M tk_M nm_M g745 d_M_init_214 rfl rfl rfl rfl rfl rfl rfl rfl rfl ?_
  refine e_eq (ws' := [(b, ob 11 [.int 0, .int (nI S), .int 0, .int 0, .int 0, .int 0, .int (1), .ref q1, .ref q2, .ref q3, .ref q4, .ref q5, .int 0, .ref q6, .ref q7, .ref q8, .ref q9, .ref q10, .ref q11, .ref q12, .int (1), .int 0, .ref q13, .ref q14, .ref q15, .int 0, .ref q16, .ref q17, .int 0, .ref q18, .ref q19, .int 0, .ref q20, .ref q21, .ref q22, .ref q23]), (q1, aI G.2.2.1 (128) (fun _ => 0)), (q2, aI G.2.1 (128) (fun _ => 0)), (q3, aI G.2.1 (128) (fun _ => 0)), (q4, aI G.2.1 (128) (fun _ => 0)), (q5, aI G.2.2.1 (128) (fun _ => 0)), (q6, aI G.2.1 (128) (fun _ => 0)), (q7, aI G.2.1 (128) (fun _ => 0)), (q8, aI G.2.1 (128) (fun _ => 0)), (q9, aI G.2.2.1 (128) (fun _ => 0)), (q10, aI G.2.1 (128) (fun _ => 0)), (q11, aI G.2.1 (16) (fun _ => 0)), (q12, aI G.2.2.1 (128) (fun _ => 0)), (q13, aI G.2.1 (5) (fun _ => 0)), (q14, aI G.2.1 (5) (fun _ => 0)), (q15, aI G.2.1 (5) (fun _ => 0)), (q16, aI G.2.1 (16) (fun _ => 0)), (q17, aI G.2.1 (16) (fun _ => 0)), (q18, aI G.2.1 (16) (fun _ => 0)), (q19, aI G.2.1 (16) (fun _ => 0)), (q20, aI G.2.1 (65) (fun _ => 0)), (q21, aI G.2.1 (65) (fun _ => 0)), (q22, aI G.2.1 (9) (fun _ => 0)), (q23, aI G.2.2.1 (8) (fun _ => 0))]) rfl ?_
  refine e_aload_n C d_M_init_217 rfl ?_
  refine e_iconst C d_M_init_218 (v := nI 1) (by decide) ?_
  refine e_iload_n C d_M_init_219 rfl ?_
  refine e_iconst C d_M_init_220 (v := 1) (by decide) ?_
  refine e_isub C d_M_init_221 ?_
  refine e_bipush C d_M_init_222 (v := 7) (by decide) ?_
  refine e_iand C d_M_init_224 ?_
  refine e_iadd C d_M_init_225 ?_
  refine e_top (y := nI wd) (by rw [hw, i_and7]; exact nI_add 1 _) ?_
  refine e_putF C hn 0 (k := 2) in_M tk_M nm_M g746 d_M_init_226 rfl rfl rfl rfl rfl rfl rfl rfl rfl ?_
  refine e_eq (ws' := [(b, ob 11 [.int 0, .int (nI S), .int (nI wd), .int 0, .int 0, .int 0, .int (1), .ref q1, .ref q2, .ref q3, .ref q4, .ref q5, .int 0, .ref q6, .ref q7, .ref q8, .ref q9, .ref q10, .ref q11, .ref q12, .int (1), .int 0, .ref q13, .ref q14, .ref q15, .int 0, .ref q16, .ref q17, .int 0, .ref q18, .ref q19, .int 0, .ref q20, .ref q21, .ref q22, .ref q23]), (q1, aI G.2.2.1 (128) (fun _ => 0)), (q2, aI G.2.1 (128) (fun _ => 0)), (q3, aI G.2.1 (128) (fun _ => 0)), (q4, aI G.2.1 (128) (fun _ => 0)), (q5, aI G.2.2.1 (128) (fun _ => 0)), (q6, aI G.2.1 (128) (fun _ => 0)), (q7, aI G.2.1 (128) (fun _ => 0)), (q8, aI G.2.1 (128) (fun _ => 0)), (q9, aI G.2.2.1 (128) (fun _ => 0)), (q10, aI G.2.1 (128) (fun _ => 0)), (q11, aI G.2.1 (16) (fun _ => 0)), (q12, aI G.2.2.1 (128) (fun _ => 0)), (q13, aI G.2.1 (5) (fun _ => 0)), (q14, aI G.2.1 (5) (fun _ => 0)), (q15, aI G.2.1 (5) (fun _ => 0)), (q16, aI G.2.1 (16) (fun _ => 0)), (q17, aI G.2.1 (16) (fun _ => 0)), (q18, aI G.2.1 (16) (fun _ => 0)), (q19, aI G.2.1 (16) (fun _ => 0)), (q20, aI G.2.1 (65) (fun _ => 0)), (q21, aI G.2.1 (65) (fun _ => 0)), (q22, aI G.2.1 (9) (fun _ => 0)), (q23, aI G.2.2.1 (8) (fun _ => 0))]) rfl ?_
  refine e_aload_n C d_M_init_229 rfl ?_
  refine e_iload_n C d_M_init_230 rfl ?_
  refine e_bipush C d_M_init_231 (v := nI 10) (by decide) ?_
  refine e_cSi C hR (k_modulo (by decide) (by decide)) g743 g14 g741 g742 d_M_init_233 rfl ey_M_modulo rfl rfl ⟨by rw [hR]; show _ ≤ 23; omega, by rw [hR]; show _ ≤ 1650; omega⟩ ?_
  refine e_top (y := nI kd) (by rw [hk]) ?_
  refine e_putF C hn 0 (k := 3) in_M tk_M nm_M g747 d_M_init_236 rfl rfl rfl rfl rfl rfl rfl rfl rfl ?_
  refine e_eq (ws' := [(b, ob 11 [.int 0, .int (nI S), .int (nI wd), .int (nI kd), .int 0, .int 0, .int (1), .ref q1, .ref q2, .ref q3, .ref q4, .ref q5, .int 0, .ref q6, .ref q7, .ref q8, .ref q9, .ref q10, .ref q11, .ref q12, .int (1), .int 0, .ref q13, .ref q14, .ref q15, .int 0, .ref q16, .ref q17, .int 0, .ref q18, .ref q19, .int 0, .ref q20, .ref q21, .ref q22, .ref q23]), (q1, aI G.2.2.1 (128) (fun _ => 0)), (q2, aI G.2.1 (128) (fun _ => 0)), (q3, aI G.2.1 (128) (fun _ => 0)), (q4, aI G.2.1 (128) (fun _ => 0)), (q5, aI G.2.2.1 (128) (fun _ => 0)), (q6, aI G.2.1 (128) (fun _ => 0)), (q7, aI G.2.1 (128) (fun _ => 0)), (q8, aI G.2.1 (128) (fun _ => 0)), (q9, aI G.2.2.1 (128) (fun _ => 0)), (q10, aI G.2.1 (128) (fun _ => 0)), (q11, aI G.2.1 (16) (fun _ => 0)), (q12, aI G.2.2.1 (128) (fun _ => 0)), (q13, aI G.2.1 (5) (fun _ => 0)), (q14, aI G.2.1 (5) (fun _ => 0)), (q15, aI G.2.1 (5) (fun _ => 0)), (q16, aI G.2.1 (16) (fun _ => 0)), (q17, aI G.2.1 (16) (fun _ => 0)), (q18, aI G.2.1 (16) (fun _ => 0)), (q19, aI G.2.1 (16) (fun _ => 0)), (q20, aI G.2.1 (65) (fun _ => 0)), (q21, aI G.2.1 (65) (fun _ => 0)), (q22, aI G.2.1 (9) (fun _ => 0)), (q23, aI G.2.2.1 (8) (fun _ => 0))]) rfl ?_
  refine e_aload_n C d_M_init_239 rfl ?_
  refine e_iload C d_M_init_240 rfl ?_
  refine e_iconst C d_M_init_242 (v := nI 5) (by decide) ?_
  refine e_cSi C hR (k_modulo (by decide) (by decide)) g743 g14 g741 g742 d_M_init_243 rfl ey_M_modulo rfl rfl ⟨by rw [hR]; show _ ≤ 23; omega, by rw [hR]; show _ ≤ 1650; omega⟩ ?_
  refine e_top (y := nI V) (by rw [hV]) ?_
  refine e_putF C hn 0 (k := 4) in_M tk_M nm_M g748 d_M_init_246 rfl rfl rfl rfl rfl rfl rfl rfl rfl ?_
  refine e_eq (ws' := [(b, ob 11 [.int 0, .int (nI S), .int (nI wd), .int (nI kd), .int (nI V), .int 0, .int (1), .ref q1, .ref q2, .ref q3, .ref q4, .ref q5, .int 0, .ref q6, .ref q7, .ref q8, .ref q9, .ref q10, .ref q11, .ref q12, .int (1), .int 0, .ref q13, .ref q14, .ref q15, .int 0, .ref q16, .ref q17, .int 0, .ref q18, .ref q19, .int 0, .ref q20, .ref q21, .ref q22, .ref q23]), (q1, aI G.2.2.1 (128) (fun _ => 0)), (q2, aI G.2.1 (128) (fun _ => 0)), (q3, aI G.2.1 (128) (fun _ => 0)), (q4, aI G.2.1 (128) (fun _ => 0)), (q5, aI G.2.2.1 (128) (fun _ => 0)), (q6, aI G.2.1 (128) (fun _ => 0)), (q7, aI G.2.1 (128) (fun _ => 0)), (q8, aI G.2.1 (128) (fun _ => 0)), (q9, aI G.2.2.1 (128) (fun _ => 0)), (q10, aI G.2.1 (128) (fun _ => 0)), (q11, aI G.2.1 (16) (fun _ => 0)), (q12, aI G.2.2.1 (128) (fun _ => 0)), (q13, aI G.2.1 (5) (fun _ => 0)), (q14, aI G.2.1 (5) (fun _ => 0)), (q15, aI G.2.1 (5) (fun _ => 0)), (q16, aI G.2.1 (16) (fun _ => 0)), (q17, aI G.2.1 (16) (fun _ => 0)), (q18, aI G.2.1 (16) (fun _ => 0)), (q19, aI G.2.1 (16) (fun _ => 0)), (q20, aI G.2.1 (65) (fun _ => 0)), (q21, aI G.2.1 (65) (fun _ => 0)), (q22, aI G.2.1 (9) (fun _ => 0)), (q23, aI G.2.2.1 (8) (fun _ => 0))]) rfl ?_
  exact e_vret C E d_M_init_249 (by show _ ≤ 23; omega) (by show _ ≤ 1650; omega) ⟨rfl, fun k => ([0, 0, 0, 0, 0, 0, 0, q1, q2, q3, q4, q5, 0, q6, q7, q8, q9, q10, q11, q12, 0, 0, q13, q14, q15, 0, q16, q17, 0, q18, q19, 0, q20, q21, q22, q23, 0, 0, 0, 0, b] : List Nat).getD k 0, rfl, rfl⟩
