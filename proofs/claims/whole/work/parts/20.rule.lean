/-! THE RULES AS ONE: by the rule's number kd -/
section CallU
variable {X : EX} {G : EG} {own : String} {cc : ByteArray} {nL cells slots pc : Nat} {lv : List (Nat × Value)} {st : List Value} {B : Option Value → va_W → Prop}
theorem e_cU (C : EC X G own cc nL) {Rm : Room} (hX : X.R = Rm) {wc : va_W} {x y : MethodName} {fr lo : Nat} {As : List Value} {bytes : ByteArray} {maxL index b ci : Nat} (q0 : Nat) {ret : Option FieldType} {T : u_T} {N : Nat} {fs st0 : List Value}
    (hM : Con X.l G y bytes maxL ret (rz fr lo) (.ref b :: As) wc B) (hc : Cond.code y bytes maxL ret ∈ GT) (hi : Cond.initialized y.cls ∈ GT) (hl : Cond.methodLink own index x ∈ GT) (hsm : Cond.sameMethod x.cls x.cls x.name x.desc ∈ GT) (hde : x ∈ eDecl) (hin : Cond.instanceMethod y ∈ GT) (hse : Cond.selects y.cls x y ∈ GT) (hd : decode cc pc = .ok (.invokevirtual index, 3)) (hst : st0 = As.reverse ++ .ref b :: st) (hy : eY x As.length = true) (hR : eR (rz fr lo) Rm maxL = true) (he : wc[q0]? = some (b, ob ci fs)) (hk : KL[ci]? = some (y.cls, T, N)) (hs : Nat.ble (st.map fun v : Value => v.category).sum 8 = true) (hf : cells ≤ X.R.cells ∧ slots ≤ X.R.slots)
    (kk : ∀ (r : Option Value) (u : va_W), B r u → EW X G nL cells slots (pc + 3) lv (r.toList ++ st) u) : EW X G nL cells slots pc lv st0 wc := by
  subst hst
  have h := e_callU (wr := []) (cells := cells) (slots := slots) (lv := lv) C As q0 hM hc hi hl hsm hde hin hse hd hy (by rw [hX]; exact hR) hk he hs hf (fun r u hB => by rw [List.append_nil]; exact kk r u hB)
  rw [List.append_nil] at h
  exact h
end CallU
/-- numbers and arrays -/
abbrev CS : Type := (Nat → Int32) × (Nat → Nat → Int32)
def rW (G : EG) (a : Nat → Nat) (v : Nat → Int32) (f : Nat → Nat → Int32) (n S : Nat) : Nat → va_W
  | 3 => rChance a v
  | 5 => rRound G a v f n S
  | 6 => rTree G a v f S
  | 7 => rLately G a v f n
  | 8 => rAge G a v f n
  | _ => rTime G a v f n
/-- the class's world: the rule's cells stand last -/
abbrev wK (G : EG) (a : Nat → Nat) (c : CS) (S wd V kd : Nat) : va_W := cF G a c.1 c.2 (S * wd) V (rW G a c.1 c.2 (S * wd) S kd)
/-- leaves -/
def lvN (wd : Nat) : Nat := if wd ≤ 1 then 1 else if wd ≤ 2 then 2 else if wd ≤ 4 then 4 else 8
/-- what a rule keeps -/
def RI (S wd kd : Nat) (c : CS) : Prop := match kd with
  | 3 => ∃ x, x < 2 ^ 31 ∧ c.1 19 = nI x
  | 5 => ∀ s, s < S → ∃ h0, h0 < wd ∧ c.2 23 s = nI h0
  | 6 => c.1 16 = nI (lvN wd)
  | _ => True
def rUse (wd kd : Nat) (c : CS) (s w : Nat) : CS := match kd with
  | 3 => c
  | 5 => (c.1, up2 c.2 22 (upd (c.2 22) (s * wd + w) 1))
  | 6 => (c.1, up2 c.2 22 (upd (c.2 22) s (ptA 4 (lvN wd + w) (c.2 22 s))))
  | 7 => (c.1, up2 c.2 22 (ltM (c.2 22) (s * wd) wd w))
  | 8 => (c.1, up2 c.2 22 (upd (c.2 22) (s * wd + w) 0))
  | _ => (upd c.1 17 (c.1 17 + 1), up2 (up2 c.2 22 (upd (c.2 22) (s * wd + w) (c.1 17 + 1))) 24 (upd (c.2 24) (s * wd + w) (c.2 24 (s * wd + w) + 1)))
def rCome (wd kd : Nat) (c : CS) (s w : Nat) : CS := match kd with
  | 3 => c
  | 5 => (c.1, up2 c.2 22 (upd (c.2 22) (s * wd + w) 0))
  | 6 => (c.1, up2 c.2 22 (upd (c.2 22) s (ptA 4 (lvN wd + w) (c.2 22 s))))
  | 7 => (c.1, up2 c.2 22 (ltM (c.2 22) (s * wd) wd w))
  | 8 => (c.1, up2 c.2 22 (upd (c.2 22) (s * wd + w) 2))
  | _ => (upd (upd c.1 17 (c.1 17 + 1)) 18 (c.1 18 - 1), up2 (up2 (up2 c.2 22 (upd (c.2 22) (s * wd + w) (if c.1 16 = 9 then c.1 18 - 1 else c.1 17 + 1))) 23 (upd (c.2 23) (s * wd + w) (c.1 17 + 1))) 24 (upd (c.2 24) (s * wd + w) 0))
def rChoose (wd kd : Nat) (c : CS) (s : Nat) : Option Nat := match kd with
  | 3 => chC c.2 wd s (c.1 19).toNatClampNeg
  | 5 => rndC (lkd c.2 wd s) (mkd c.2 wd s) (wfh wd (c.2 23 s).toNatClampNeg) none 0 wd
  | 6 => trP c.2 wd s (lvN wd)
  | 7 => rndC (lkd c.2 wd s) (mkd c.2 wd s) (fun k => k) none 0 wd
  | 8 => pickB (lkd c.2 wd s) (fun x y => old c.2 (s * wd + x) (s * wd + y)) none 0 wd
  | _ => pickB (lkd c.2 wd s) (fun x y => gs (c.1 16) c.2 (s * wd + x) (s * wd + y)) none 0 wd
def rSettle (wd kd : Nat) (c : CS) (s w : Nat) : CS := match kd with
  | 3 => (upd c.1 19 ((1103515245 * c.1 19 + 12345) &&& 2147483647), c.2)
  | 5 => (c.1, up2 (up2 c.2 22 (rndS (lkd c.2 wd s) (wfh wd (c.2 23 s).toNatClampNeg) (mkd c.2 wd s w) w (s * wd) (c.2 22) 0 wd)) 23 (upd (c.2 23) s (nI (nxt wd w))))
  | 6 => c
  | 7 => c
  | 8 => (c.1, up2 c.2 22 (agd c.2 (3 - c.2 22 (s * wd + w)) (s * wd) (s * wd + wd)))
  | _ => c
theorem lvN_TD {v : Nat → Int32} {wd : Nat} (h : v 16 = nI (lvN wd)) (h1 : 1 ≤ wd) (h8 : wd ≤ 8) : TD v (lvN wd) wd := by
  refine ⟨h, ?_, ?_⟩
  · unfold lvN
    split
    · exact ⟨0, by decide, rfl⟩
    · split
      · exact ⟨1, by decide, rfl⟩
      · split
        · exact ⟨2, by decide, rfl⟩
        · exact ⟨3, by decide, rfl⟩
  · unfold lvN
    repeat' split
    all_goals omega
/-- what a call of the rule asks -/
def RC (S wd kd : Nat) (c : CS) : Prop := CD c.1 S wd ∧ RI S wd kd c ∧ kd < 10
theorem kd_cases {kd : Nat} (h : kd < 10) : kd = 3 ∨ kd = 5 ∨ kd = 6 ∨ kd = 7 ∨ kd = 8 ∨ kd = 0 ∨ kd = 1 ∨ kd = 2 ∨ kd = 4 ∨ kd = 9 := by omega
section RuleCalls
variable {X : EX} {G : EG} {cc : ByteArray} {nL cells slots pc S wd V kd s w : Nat} {lv : List (Nat × Value)} {st : List Value} {a : Nat → Nat} {c : CS}
theorem ey_Rule_use : eY ⟨"CacheRules$Rule", "use", "(II)V"⟩ 2 = true := by decide +kernel
set_option maxRecDepth 100000 in
theorem e_rule_use (C : EC X G "CacheRules" cc nL) {Rm : Room} (hX : X.R = Rm) (h : RC S wd kd c) (hs : s < S) (hw : w < wd) {index : Nat} (hl : Cond.methodLink "CacheRules" index ⟨"CacheRules$Rule", "use", "(II)V"⟩ ∈ GT) (hd : decode cc pc = .ok (.invokevirtual index, 3)) (hF : (Nat.ble 2 Rm.frames && Nat.ble 47 Rm.locals) = true) (hst : Nat.ble (st.map fun v : Value => v.category).sum 8 = true) (hf : cells ≤ X.R.cells ∧ slots ≤ X.R.slots)
    (kk : EW X G nL cells slots (pc + 3) lv st (wK G a (rUse wd kd c s w) S wd V kd)) : EW X G nL cells slots pc lv (.int (nI w) :: .int (nI s) :: .ref (a 21) :: st) (wK G a c S wd V kd) := by
  obtain ⟨hC, hI, hk⟩ := h
  have hw8 := hC.2.2.2.2
  rw [Bool.and_eq_true] at hF
  have hF1 := Nat.le_of_ble_eq_true hF.1
  have hF2 := Nat.le_of_ble_eq_true hF.2
  have hRm : ∀ (fr lo mL : Nat), fr ≤ 1 → 8 + (mL + 11) + lo ≤ 47 → eR (rz fr lo) Rm mL = true := by
    intro fr lo mL h1 h2
    simp only [eR, Bool.and_eq_true, Nat.ble_eq]
    exact ⟨by omega, by omega⟩
  rcases kd_cases hk with rfl | rfl | rfl | rfl | rfl | rfl | rfl | rfl | rfl | rfl
  · refine e_cU C hX 21 (k_Chance_use (v := c.1) (f := c.2) _ _) g478 g6 hl g472 (by decide) g477 g476 hd rfl ey_Rule_use (hRm 0 0 3 (by omega) (by omega)) rfl rfl hst hf (fun r u hB => ?_)
    obtain ⟨rfl, rfl⟩ := hB
    exact kk
  · refine e_cU C hX 21 (k_Round_use (v := c.1) (f := c.2) hC hs hw) g488 g7 hl g472 (by decide) g487 g486 hd rfl ey_Rule_use (hRm 0 0 3 (by omega) (by omega)) rfl rfl hst hf (fun r u hB => ?_)
    obtain ⟨rfl, rfl⟩ := hB
    exact kk
  · have hT := lvN_TD (v := c.1) hI hw8.1 hw8.2
    refine e_cU C hX 21 (k_Tree_use (v := c.1) (f := c.2) hC hT hs hw) g494 g8 hl g472 (by decide) g493 g492 hd rfl ey_Rule_use (hRm 1 25 3 (by omega) (by omega)) rfl rfl hst hf (fun r u hB => ?_)
    obtain ⟨rfl, rfl⟩ := hB
    exact kk
  · refine e_cU C hX 21 (k_Lately_use (v := c.1) (f := c.2) hC hs hw) g481 g9 hl g472 (by decide) g480 g479 hd rfl ey_Rule_use (hRm 1 24 3 (by omega) (by omega)) rfl rfl hst hf (fun r u hB => ?_)
    obtain ⟨rfl, rfl⟩ := hB
    exact kk
  · refine e_cU C hX 21 (k_Age_use (v := c.1) (f := c.2) hC hs hw) g475 g10 hl g472 (by decide) g474 g473 hd rfl ey_Rule_use (hRm 0 0 3 (by omega) (by omega)) rfl rfl hst hf (fun r u hB => ?_)
    obtain ⟨rfl, rfl⟩ := hB
    exact kk
  · refine e_cU C hX 21 (k_Time_use (v := c.1) (f := c.2) hC hs hw) g491 g11 hl g472 (by decide) g490 g489 hd rfl ey_Rule_use (hRm 0 0 4 (by omega) (by omega)) rfl rfl hst hf (fun r u hB => ?_)
    obtain ⟨rfl, rfl⟩ := hB
    exact kk
  · refine e_cU C hX 21 (k_Time_use (v := c.1) (f := c.2) hC hs hw) g491 g11 hl g472 (by decide) g490 g489 hd rfl ey_Rule_use (hRm 0 0 4 (by omega) (by omega)) rfl rfl hst hf (fun r u hB => ?_)
    obtain ⟨rfl, rfl⟩ := hB
    exact kk
  · refine e_cU C hX 21 (k_Time_use (v := c.1) (f := c.2) hC hs hw) g491 g11 hl g472 (by decide) g490 g489 hd rfl ey_Rule_use (hRm 0 0 4 (by omega) (by omega)) rfl rfl hst hf (fun r u hB => ?_)
    obtain ⟨rfl, rfl⟩ := hB
    exact kk
  · refine e_cU C hX 21 (k_Time_use (v := c.1) (f := c.2) hC hs hw) g491 g11 hl g472 (by decide) g490 g489 hd rfl ey_Rule_use (hRm 0 0 4 (by omega) (by omega)) rfl rfl hst hf (fun r u hB => ?_)
    obtain ⟨rfl, rfl⟩ := hB
    exact kk
  · refine e_cU C hX 21 (k_Time_use (v := c.1) (f := c.2) hC hs hw) g491 g11 hl g472 (by decide) g490 g489 hd rfl ey_Rule_use (hRm 0 0 4 (by omega) (by omega)) rfl rfl hst hf (fun r u hB => ?_)
    obtain ⟨rfl, rfl⟩ := hB
    exact kk
theorem ey_Rule_come : eY ⟨"CacheRules$Rule", "come", "(II)V"⟩ 2 = true := by decide +kernel
set_option maxRecDepth 100000 in
theorem e_rule_come (C : EC X G "CacheRules" cc nL) {Rm : Room} (hX : X.R = Rm) (h : RC S wd kd c) (hs : s < S) (hw : w < wd) {index : Nat} (hl : Cond.methodLink "CacheRules" index ⟨"CacheRules$Rule", "come", "(II)V"⟩ ∈ GT) (hd : decode cc pc = .ok (.invokevirtual index, 3)) (hF : (Nat.ble 2 Rm.frames && Nat.ble 47 Rm.locals) = true) (hst : Nat.ble (st.map fun v : Value => v.category).sum 8 = true) (hf : cells ≤ X.R.cells ∧ slots ≤ X.R.slots)
    (kk : EW X G nL cells slots (pc + 3) lv st (wK G a (rCome wd kd c s w) S wd V kd)) : EW X G nL cells slots pc lv (.int (nI w) :: .int (nI s) :: .ref (a 21) :: st) (wK G a c S wd V kd) := by
  obtain ⟨hC, hI, hk⟩ := h
  have hw8 := hC.2.2.2.2
  rw [Bool.and_eq_true] at hF
  have hF1 := Nat.le_of_ble_eq_true hF.1
  have hF2 := Nat.le_of_ble_eq_true hF.2
  have hRm : ∀ (fr lo mL : Nat), fr ≤ 1 → 8 + (mL + 11) + lo ≤ 47 → eR (rz fr lo) Rm mL = true := by
    intro fr lo mL h1 h2
    simp only [eR, Bool.and_eq_true, Nat.ble_eq]
    exact ⟨by omega, by omega⟩
  rcases kd_cases hk with rfl | rfl | rfl | rfl | rfl | rfl | rfl | rfl | rfl | rfl
  · refine e_cU C hX 21 (k_Chance_come (v := c.1) (f := c.2) _ _) g593 g6 hl g587 (by decide) g592 g591 hd rfl ey_Rule_come (hRm 0 0 3 (by omega) (by omega)) rfl rfl hst hf (fun r u hB => ?_)
    obtain ⟨rfl, rfl⟩ := hB
    exact kk
  · refine e_cU C hX 21 (k_Round_come (v := c.1) (f := c.2) hC hs hw) g599 g7 hl g587 (by decide) g598 g597 hd rfl ey_Rule_come (hRm 0 0 3 (by omega) (by omega)) rfl rfl hst hf (fun r u hB => ?_)
    obtain ⟨rfl, rfl⟩ := hB
    exact kk
  · have hT := lvN_TD (v := c.1) hI hw8.1 hw8.2
    refine e_cU C hX 21 (k_Tree_come (v := c.1) (f := c.2) hC hT hs hw) g605 g8 hl g587 (by decide) g604 g603 hd rfl ey_Rule_come (hRm 1 25 3 (by omega) (by omega)) rfl rfl hst hf (fun r u hB => ?_)
    obtain ⟨rfl, rfl⟩ := hB
    exact kk
  · refine e_cU C hX 21 (k_Lately_come (v := c.1) (f := c.2) hC hs hw) g596 g9 hl g587 (by decide) g595 g594 hd rfl ey_Rule_come (hRm 1 24 3 (by omega) (by omega)) rfl rfl hst hf (fun r u hB => ?_)
    obtain ⟨rfl, rfl⟩ := hB
    exact kk
  · refine e_cU C hX 21 (k_Age_come (v := c.1) (f := c.2) hC hs hw) g590 g10 hl g587 (by decide) g589 g588 hd rfl ey_Rule_come (hRm 0 0 3 (by omega) (by omega)) rfl rfl hst hf (fun r u hB => ?_)
    obtain ⟨rfl, rfl⟩ := hB
    exact kk
  · refine e_cU C hX 21 (k_Time_come (v := c.1) (f := c.2) hC hs hw) g602 g11 hl g587 (by decide) g601 g600 hd rfl ey_Rule_come (hRm 0 0 4 (by omega) (by omega)) rfl rfl hst hf (fun r u hB => ?_)
    obtain ⟨rfl, rfl⟩ := hB
    exact kk
  · refine e_cU C hX 21 (k_Time_come (v := c.1) (f := c.2) hC hs hw) g602 g11 hl g587 (by decide) g601 g600 hd rfl ey_Rule_come (hRm 0 0 4 (by omega) (by omega)) rfl rfl hst hf (fun r u hB => ?_)
    obtain ⟨rfl, rfl⟩ := hB
    exact kk
  · refine e_cU C hX 21 (k_Time_come (v := c.1) (f := c.2) hC hs hw) g602 g11 hl g587 (by decide) g601 g600 hd rfl ey_Rule_come (hRm 0 0 4 (by omega) (by omega)) rfl rfl hst hf (fun r u hB => ?_)
    obtain ⟨rfl, rfl⟩ := hB
    exact kk
  · refine e_cU C hX 21 (k_Time_come (v := c.1) (f := c.2) hC hs hw) g602 g11 hl g587 (by decide) g601 g600 hd rfl ey_Rule_come (hRm 0 0 4 (by omega) (by omega)) rfl rfl hst hf (fun r u hB => ?_)
    obtain ⟨rfl, rfl⟩ := hB
    exact kk
  · refine e_cU C hX 21 (k_Time_come (v := c.1) (f := c.2) hC hs hw) g602 g11 hl g587 (by decide) g601 g600 hd rfl ey_Rule_come (hRm 0 0 4 (by omega) (by omega)) rfl rfl hst hf (fun r u hB => ?_)
    obtain ⟨rfl, rfl⟩ := hB
    exact kk
theorem ey_Rule_choose : eY ⟨"CacheRules$Rule", "choose", "(I[Z)I"⟩ 2 = true := by decide +kernel
set_option maxRecDepth 100000 in
theorem e_rule_choose (C : EC X G "CacheRules" cc nL) {Rm : Room} (hX : X.R = Rm) (h : RC S wd kd c) (hs : s < S) {index : Nat} (hl : Cond.methodLink "CacheRules" index ⟨"CacheRules$Rule", "choose", "(I[Z)I"⟩ ∈ GT) (hd : decode cc pc = .ok (.invokevirtual index, 3)) (hF : (Nat.ble 2 Rm.frames && Nat.ble 49 Rm.locals) = true) (hst : Nat.ble (st.map fun v : Value => v.category).sum 8 = true) (hf : cells ≤ X.R.cells ∧ slots ≤ X.R.slots)
    (kk : EW X G nL cells slots (pc + 3) lv (.int (oI (rChoose wd kd c s)) :: st) (wK G a c S wd V kd)) : EW X G nL cells slots pc lv (.ref (a 6) :: .int (nI s) :: .ref (a 21) :: st) (wK G a c S wd V kd) := by
  obtain ⟨hC, hI, hk⟩ := h
  have hw8 := hC.2.2.2.2
  rw [Bool.and_eq_true] at hF
  have hF1 := Nat.le_of_ble_eq_true hF.1
  have hF2 := Nat.le_of_ble_eq_true hF.2
  have hRm : ∀ (fr lo mL : Nat), fr ≤ 1 → 8 + (mL + 11) + lo ≤ 49 → eR (rz fr lo) Rm mL = true := by
    intro fr lo mL h1 h2
    simp only [eR, Bool.and_eq_true, Nat.ble_eq]
    exact ⟨by omega, by omega⟩
  rcases kd_cases hk with rfl | rfl | rfl | rfl | rfl | rfl | rfl | rfl | rfl | rfl
  · obtain ⟨x, hx, hxe⟩ := hI
    have hcl : (c.1 19).toNatClampNeg = x := by rw [hxe]; exact nI_clamp hx
    simp only [rChoose, hcl] at kk
    refine e_cU C hX 21 (k_Chance_choose (v := c.1) (f := c.2) hC hs hx hxe) g523 g6 hl g517 (by decide) g522 g521 hd rfl ey_Rule_choose (hRm 0 0 6 (by omega) (by omega)) rfl rfl hst hf (fun r u hB => ?_)
    obtain ⟨rfl, rfl⟩ := hB
    exact kk
  · obtain ⟨h0, hh0, hhe⟩ := hI s hs
    have hcl : (c.2 23 s).toNatClampNeg = h0 := by rw [hhe]; exact nI_clamp (by omega)
    simp only [rChoose, hcl] at kk
    refine e_cU C hX 21 (k_Round_choose (v := c.1) (f := c.2) hC hs hh0 hhe) g536 g7 hl g517 (by decide) g535 g534 hd rfl ey_Rule_choose (hRm 1 27 3 (by omega) (by omega)) rfl rfl hst hf (fun r u hB => ?_)
    obtain ⟨rfl, rfl⟩ := hB
    exact kk
  · have hT := lvN_TD (v := c.1) hI hw8.1 hw8.2
    refine e_cU C hX 21 (k_Tree_choose (v := c.1) (f := c.2) hC hT hs) g549 g8 hl g517 (by decide) g548 g547 hd rfl ey_Rule_choose (hRm 0 0 6 (by omega) (by omega)) rfl rfl hst hf (fun r u hB => ?_)
    obtain ⟨rfl, rfl⟩ := hB
    exact kk
  · refine e_cU C hX 21 (k_Lately_choose (v := c.1) (f := c.2) hC hs) g527 g9 hl g517 (by decide) g526 g525 hd rfl ey_Rule_choose (hRm 1 27 3 (by omega) (by omega)) rfl rfl hst hf (fun r u hB => ?_)
    obtain ⟨rfl, rfl⟩ := hB
    exact kk
  · refine e_cU C hX 21 (k_Age_choose (v := c.1) (f := c.2) hC hs) g520 g10 hl g517 (by decide) g519 g518 hd rfl ey_Rule_choose (hRm 0 0 6 (by omega) (by omega)) rfl rfl hst hf (fun r u hB => ?_)
    obtain ⟨rfl, rfl⟩ := hB
    exact kk
  · refine e_cU C hX 21 (k_Time_choose (v := c.1) (f := c.2) hC hs) g542 g11 hl g517 (by decide) g541 g540 hd rfl ey_Rule_choose (hRm 1 22 6 (by omega) (by omega)) rfl rfl hst hf (fun r u hB => ?_)
    obtain ⟨rfl, rfl⟩ := hB
    exact kk
  · refine e_cU C hX 21 (k_Time_choose (v := c.1) (f := c.2) hC hs) g542 g11 hl g517 (by decide) g541 g540 hd rfl ey_Rule_choose (hRm 1 22 6 (by omega) (by omega)) rfl rfl hst hf (fun r u hB => ?_)
    obtain ⟨rfl, rfl⟩ := hB
    exact kk
  · refine e_cU C hX 21 (k_Time_choose (v := c.1) (f := c.2) hC hs) g542 g11 hl g517 (by decide) g541 g540 hd rfl ey_Rule_choose (hRm 1 22 6 (by omega) (by omega)) rfl rfl hst hf (fun r u hB => ?_)
    obtain ⟨rfl, rfl⟩ := hB
    exact kk
  · refine e_cU C hX 21 (k_Time_choose (v := c.1) (f := c.2) hC hs) g542 g11 hl g517 (by decide) g541 g540 hd rfl ey_Rule_choose (hRm 1 22 6 (by omega) (by omega)) rfl rfl hst hf (fun r u hB => ?_)
    obtain ⟨rfl, rfl⟩ := hB
    exact kk
  · refine e_cU C hX 21 (k_Time_choose (v := c.1) (f := c.2) hC hs) g542 g11 hl g517 (by decide) g541 g540 hd rfl ey_Rule_choose (hRm 1 22 6 (by omega) (by omega)) rfl rfl hst hf (fun r u hB => ?_)
    obtain ⟨rfl, rfl⟩ := hB
    exact kk
theorem ey_Rule_settle : eY ⟨"CacheRules$Rule", "settle", "(II[Z)V"⟩ 3 = true := by decide +kernel
set_option maxRecDepth 100000 in
theorem e_rule_settle (C : EC X G "CacheRules" cc nL) {Rm : Room} (hX : X.R = Rm) (h : RC S wd kd c) (hs : s < S) (hw : w < wd) {index : Nat} (hl : Cond.methodLink "CacheRules" index ⟨"CacheRules$Rule", "settle", "(II[Z)V"⟩ ∈ GT) (hd : decode cc pc = .ok (.invokevirtual index, 3)) (hF : (Nat.ble 1 Rm.frames && Nat.ble 26 Rm.locals) = true) (hst : Nat.ble (st.map fun v : Value => v.category).sum 8 = true) (hf : cells ≤ X.R.cells ∧ slots ≤ X.R.slots)
    (kk : EW X G nL cells slots (pc + 3) lv st (wK G a (rSettle wd kd c s w) S wd V kd)) : EW X G nL cells slots pc lv (.ref (a 6) :: .int (nI w) :: .int (nI s) :: .ref (a 21) :: st) (wK G a c S wd V kd) := by
  obtain ⟨hC, hI, hk⟩ := h
  have hw8 := hC.2.2.2.2
  rw [Bool.and_eq_true] at hF
  have hF1 := Nat.le_of_ble_eq_true hF.1
  have hF2 := Nat.le_of_ble_eq_true hF.2
  have hRm : ∀ (fr lo mL : Nat), fr ≤ 0 → 8 + (mL + 11) + lo ≤ 26 → eR (rz fr lo) Rm mL = true := by
    intro fr lo mL h1 h2
    simp only [eR, Bool.and_eq_true, Nat.ble_eq]
    exact ⟨by omega, by omega⟩
  rcases kd_cases hk with rfl | rfl | rfl | rfl | rfl | rfl | rfl | rfl | rfl | rfl
  · refine e_cU C hX 21 (k_Chance_settle (v := c.1) (f := c.2) _ _) g558 g6 hl g552 (by decide) g557 g556 hd rfl ey_Rule_settle (hRm 0 0 4 (by omega) (by omega)) rfl rfl hst hf (fun r u hB => ?_)
    obtain ⟨rfl, rfl⟩ := hB
    exact kk
  · obtain ⟨h0, hh0, hhe⟩ := hI s hs
    have hcl : (c.2 23 s).toNatClampNeg = h0 := by rw [hhe]; exact nI_clamp (by omega)
    simp only [rSettle, hcl] at kk
    refine e_cU C hX 21 (k_Round_settle (v := c.1) (f := c.2) hC hs hw hh0 hhe) g566 g7 hl g552 (by decide) g565 g564 hd rfl ey_Rule_settle (hRm 0 0 7 (by omega) (by omega)) rfl rfl hst hf (fun r u hB => ?_)
    obtain ⟨rfl, rfl⟩ := hB
    exact kk
  · have hT := lvN_TD (v := c.1) hI hw8.1 hw8.2
    refine e_cU C hX 21 (k_Tree_settle (v := c.1) (f := c.2) _ _) g572 g8 hl g552 (by decide) g571 g570 hd rfl ey_Rule_settle (hRm 0 0 4 (by omega) (by omega)) rfl rfl hst hf (fun r u hB => ?_)
    obtain ⟨rfl, rfl⟩ := hB
    exact kk
  · refine e_cU C hX 21 (k_Lately_settle (v := c.1) (f := c.2) _ _) g563 g9 hl g552 (by decide) g562 g561 hd rfl ey_Rule_settle (hRm 0 0 4 (by omega) (by omega)) rfl rfl hst hf (fun r u hB => ?_)
    obtain ⟨rfl, rfl⟩ := hB
    exact kk
  · refine e_cU C hX 21 (k_Age_settle (v := c.1) (f := c.2) hC hs hw) g555 g10 hl g552 (by decide) g554 g553 hd rfl ey_Rule_settle (hRm 0 0 6 (by omega) (by omega)) rfl rfl hst hf (fun r u hB => ?_)
    obtain ⟨rfl, rfl⟩ := hB
    exact kk
  · refine e_cU C hX 21 (k_Time_settle (v := c.1) (f := c.2) _ _) g569 g11 hl g552 (by decide) g568 g567 hd rfl ey_Rule_settle (hRm 0 0 4 (by omega) (by omega)) rfl rfl hst hf (fun r u hB => ?_)
    obtain ⟨rfl, rfl⟩ := hB
    exact kk
  · refine e_cU C hX 21 (k_Time_settle (v := c.1) (f := c.2) _ _) g569 g11 hl g552 (by decide) g568 g567 hd rfl ey_Rule_settle (hRm 0 0 4 (by omega) (by omega)) rfl rfl hst hf (fun r u hB => ?_)
    obtain ⟨rfl, rfl⟩ := hB
    exact kk
  · refine e_cU C hX 21 (k_Time_settle (v := c.1) (f := c.2) _ _) g569 g11 hl g552 (by decide) g568 g567 hd rfl ey_Rule_settle (hRm 0 0 4 (by omega) (by omega)) rfl rfl hst hf (fun r u hB => ?_)
    obtain ⟨rfl, rfl⟩ := hB
    exact kk
  · refine e_cU C hX 21 (k_Time_settle (v := c.1) (f := c.2) _ _) g569 g11 hl g552 (by decide) g568 g567 hd rfl ey_Rule_settle (hRm 0 0 4 (by omega) (by omega)) rfl rfl hst hf (fun r u hB => ?_)
    obtain ⟨rfl, rfl⟩ := hB
    exact kk
  · refine e_cU C hX 21 (k_Time_settle (v := c.1) (f := c.2) _ _) g569 g11 hl g552 (by decide) g568 g567 hd rfl ey_Rule_settle (hRm 0 0 4 (by omega) (by omega)) rfl rfl hst hf (fun r u hB => ?_)
    obtain ⟨rfl, rfl⟩ := hB
    exact kk
end RuleCalls
