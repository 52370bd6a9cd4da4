/-! CONSTRUCTORS -/
abbrev rc (fr ce sl lo : Nat) : Room := { frames := fr, cells := ce, slots := sl, locals := lo }
section EVC
variable {X : EX} {G : EG} {own : String} {cc : ByteArray} {nL cells slots pc mc ms : Nat} {lv : List (Nat × Value)} {st : List Value} {ws : va_W} {B : Option Value → va_W → Prop}
theorem e_obj (C : EC X G own cc nL) {Rm : Room} (hX : X.R = Rm) {idx a : Nat} (hlk : Cond.methodLink own idx Lib.objectInit ∈ GT) (hd : decode cc pc = .ok (.invokespecial idx, 3)) (hF : (Nat.ble 1 Rm.frames && Nat.ble 20 Rm.locals) = true) (k : EW X G nL cells slots (pc + 3) lv [] ws) : EW X G nL cells slots pc lv [.ref a] ws := by
  intro H locs ls hP hD hS hl
  rw [Bool.and_eq_true] at hF
  have hF1 := Nat.le_of_ble_eq_true hF.1
  have hF2 := Nat.le_of_ble_eq_true hF.2
  rw [← hX] at hF1 hF2
  exact W.objInit C.1 C.2.1 C.2.2.2.1 (C.2.2.2.2.1 _ hlk) (C.2.2.2.2.1 _ g29) (C.2.2.2.2.1 _ g30) rfl (by rw [C.2.2.1]; exact hl.1) rfl hd hF1 (Nat.le_trans (Nat.le_of_ble_eq_true rfl) hF2) (k H locs ls hP hD hS hl)
theorem e_cI (C : EC X G own cc nL) {Rm : Room} (hX : X.R = Rm) {wc wr : va_W} {y : MethodName} {fr ce sl lo : Nat} {As : List Value} {bytes : ByteArray} {maxL index b : Nat} {st0 : List Value}
    (hM : Con X.l G y bytes maxL none (rc fr ce sl lo) (.ref b :: As) wc B) (hc : Cond.code y bytes maxL none ∈ GT) (hi : Cond.initialized y.cls ∈ GT) (hl : Cond.methodLink own index y ∈ GT) (hin : Cond.instanceMethod y ∈ GT) (hd : decode cc pc = .ok (.invokespecial index, 3)) (hw : ws = wc ++ wr) (hst : st0 = As.reverse ++ .ref b :: st) (hy : eY y As.length = true) (hyn : y.name = "<init>") (hR : eR (rc fr ce sl lo) Rm maxL = true) (hs : Nat.ble (st.map fun v : Value => v.category).sum 8 = true) (h1 : cells + ce ≤ Rm.cells) (h2 : slots + sl ≤ Rm.slots)
    (kk : ∀ (r : Option Value) (u : va_W), B r u → EW X G nL (cells + ce) (slots + sl) (pc + 3) lv (r.toList ++ st) (u ++ wr)) : EW X G nL cells slots pc lv st0 ws := by
  subst hst
  subst hw
  exact e_callI C As hM hc hi hl hin hd hy hyn (by rw [hX]; exact hR) hs ⟨by rw [hX]; exact h1, by rw [hX]; exact h2⟩ kk
end EVC
/-- a number's rest, never below 0 -/
def mdN (x : Int32) (n : Nat) : Nat := (x.toInt % (n : Int)).toNat
theorem mdN_lt {x : Int32} {n : Nat} (h : 1 ≤ n) : mdN x n < n := by
  unfold mdN
  have h1 := Int.emod_lt_of_pos x.toInt (show (0 : Int) < n by omega)
  have h2 := Int.emod_nonneg x.toInt (show (n : Int) ≠ 0 by omega)
  omega
theorem nI_toInt' {n : Nat} (h : n < 2 ^ 31) : (nI n).toInt = (n : Int) := by
  have := nI_toInt h
  exact this
theorem rmI_int (x : Int32) {n : Nat} (h1 : 2 ≤ n) (h2 : n < 2 ^ 20) : (x - x / nI n * nI n).toInt = x.toInt.tmod n := by
  have hn := nI_toInt' (n := n) (by omega)
  rw [Int32.toInt_sub, Int32.toInt_mul, Int32.toInt_div, hn, Int.bmod_mul_bmod, Int.sub_bmod_bmod]
  have e : x.toInt - x.toInt.tdiv n * n = x.toInt.tmod n := by
    have := Int.tmod_add_mul_tdiv x.toInt n
    rw [Int.mul_comm (n : Int)] at this
    omega
  rw [e]
  have b1 := Int.tmod_lt_of_pos x.toInt (show (0 : Int) < n by omega)
  have b2 : -(n : Int) < x.toInt.tmod n := by
    have := Int.tmod_lt_of_pos (-x.toInt) (show (0 : Int) < n by omega)
    rw [Int.neg_tmod] at this
    omega
  exact Int.bmod_eq_of_le (by omega) (by omega)
theorem mdN_tmod (x : Int32) {n : Nat} (h1 : 2 ≤ n) : (mdN x n : Int) = if 0 ≤ x.toInt.tmod n then x.toInt.tmod n else x.toInt.tmod n + n := by
  unfold mdN
  have h2 := Int.emod_nonneg x.toInt (show (n : Int) ≠ 0 by omega)
  rw [Int.toNat_of_nonneg h2]
  have h3 := Int.emod_lt_of_pos x.toInt (show (0 : Int) < n by omega)
  have h4 := Int.emod_add_mul_ediv x.toInt n
  have h5 := Int.tmod_add_mul_tdiv x.toInt n
  have b1 := Int.tmod_lt_of_pos x.toInt (show (0 : Int) < n by omega)
  have b2 : -(n : Int) < x.toInt.tmod n := by
    have := Int.tmod_lt_of_pos (-x.toInt) (show (0 : Int) < n by omega)
    rw [Int.neg_tmod] at this
    omega
  generalize x.toInt.tmod n = r at *
  generalize x.toInt % n = q at *
  have h6 : (n : Int) * (x.toInt / n - x.toInt.tdiv n) = r - q := by rw [Int.mul_sub]; omega
  generalize x.toInt / n - x.toInt.tdiv n = d at h6
  have hd : d = 0 ∨ d = -1 ∨ d = 1 ∨ 2 ≤ d ∨ d ≤ -2 := by omega
  rcases hd with rfl | rfl | rfl | hd | hd
  · rw [Int.mul_zero] at h6
    rw [if_pos (by omega)]
    omega
  · rw [Int.mul_neg, Int.mul_one] at h6
    rw [if_neg (by omega)]
    omega
  · rw [Int.mul_one] at h6
    omega
  · have := Int.mul_le_mul_of_nonneg_left hd (show (0 : Int) ≤ n by omega)
    omega
  · have := Int.mul_le_mul_of_nonneg_left hd (show (0 : Int) ≤ n by omega)
    omega
