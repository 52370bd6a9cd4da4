/-! THE RULES' STATES TIED -/
theorem slot_inj {wd s s' w w' : Nat} (hw : w < wd) (hw' : w' < wd) (h : s * wd + w = s' * wd + w') : s = s' ∧ w = w' := by
  have h0 : 0 < wd := by omega
  have e1 : (s * wd + w) / wd = s := by rw [Nat.mul_comm, Nat.mul_add_div h0, Nat.div_eq_of_lt hw]; rfl
  have e2 : (s' * wd + w') / wd = s' := by rw [Nat.mul_comm, Nat.mul_add_div h0, Nat.div_eq_of_lt hw']; rfl
  have e : s = s' := by rw [← e1, ← e2, h]
  subst e
  exact ⟨rfl, by omega⟩
/-- the same by sets and ways -/
def TI (S wd : Nat) (g h : Nat → Int32) : Prop := ∀ s w, s < S → w < wd → g (s * wd + w) = h (8 * s + w)
theorem TI.up {S wd : Nat} {g h : Nat → Int32} (H : TI S wd g h) (h8 : wd ≤ 8) {s w : Nat} (hw : w < wd) {x y : Int32} (e : x = y) : TI S wd (upd g (s * wd + w) x) (upd h (8 * s + w) y) := by
  intro s' w' hs' hw'
  by_cases hj : s' = s ∧ w' = w
  · obtain ⟨rfl, rfl⟩ := hj
    rw [pk_us, pk_us, e]
  · rw [pk_un (fun q => hj (slot_inj hw' hw q)), pk_un (fun q => hj (by omega))]
    exact H s' w' hs' hw'
def T9 (S wd N : Nat) (c m : CS) : Prop := c.1 16 = 9 ∧ ∃ (T B : Nat) (τ : Nat → Nat), T ≤ N ∧ c.1 17 = nI T ∧ m.1 12 = nI T ∧ c.1 18 = -nI B ∧ B ≤ T ∧ (∀ i j, 1 ≤ i → i < j → j ≤ B → τ i < τ j) ∧ (∀ b, 1 ≤ b → b ≤ B → 1 ≤ τ b ∧ τ b ≤ T) ∧
  ∀ s w, s < S → w < wd → (∃ t, t ≤ T ∧ c.2 22 (s * wd + w) = nI t ∧ m.2 13 (8 * s + w) = nI t) ∨ ∃ b, 1 ≤ b ∧ b ≤ B ∧ c.2 22 (s * wd + w) = -nI b ∧ m.2 13 (8 * s + w) = -nI (τ b)
/-- a bit as a number -/
def tb (x : Int32) : Nat := if x = 0 then 0 else 1
/-- the rule's state of the class and of the reference, tied -/
def TK (S wd kd N : Nat) (c m : CS) : Prop := match kd with
  | 3 => c.1 19 = m.1 20
  | 5 => TI S wd (c.2 22) (m.2 16) ∧ ∀ s, s < S → c.2 23 s = m.2 18 s
  | 6 => ∀ s n, s < S → 1 ≤ n → n < 8 → bitN (c.2 22 s) n = tb (m.2 19 (8 * s + n))
  | 7 => TI S wd (c.2 22) (m.2 16)
  | 8 => TI S wd (c.2 22) (m.2 17) ∧ ∀ s w, s < S → w < wd → ∃ a, a ≤ 3 ∧ m.2 17 (8 * s + w) = nI a
  | 9 => T9 S wd N c m
  | _ => c.1 16 = nI kd ∧ c.1 17 = m.1 12 ∧ TI S wd (c.2 22) (m.2 13) ∧ TI S wd (c.2 23) (m.2 14) ∧ TI S wd (c.2 24) (m.2 15)
/-! rule 6: bits -/
theorem bitN_lsb (t : Int32) : ∀ n, n < 8 → bitN t n = (t.toBitVec.getLsbD n).toNat := by
  intro n hn
  have e : (t >>> (nI n &&& 31)).toBitVec = t.toBitVec.sshiftRight n := by
    show t.toBitVec.sshiftRight ((nI n &&& 31).toBitVec.smod 32).toNat = _
    have : ∀ n, n < 8 → ((nI n &&& 31).toBitVec.smod 32).toNat = n := by decide +kernel
    rw [this n hn]
  unfold bitN
  rw [e]
  have h2 : (t.toBitVec.sshiftRight n).toNat % 2 = ((t.toBitVec.sshiftRight n).getLsbD 0).toNat := by
    rw [BitVec.getLsbD, Nat.testBit_zero]
    rcases Nat.mod_two_eq_zero_or_one (t.toBitVec.sshiftRight n).toNat with q | q <;> rw [q] <;> rfl
  rw [h2, BitVec.getLsbD_sshiftRight]
  simp [show n < 32 by omega]
theorem shl_lsb : ∀ k, k < 8 → ∀ n, n < 8 → ((1 : Int32) <<< (nI k &&& 31)).toBitVec.getLsbD n = decide (n = k) := by decide +kernel
theorem trB_bit (t : Int32) {node n : Nat} (hk : node / 2 < 8) (hn : n < 8) : bitN (trB t node) n = if n = node / 2 then (if node % 2 = 0 then 1 else 0) else bitN t n := by
  have h1 := shl_lsb (node / 2) hk n hn
  rw [bitN_lsb _ n hn, bitN_lsb _ n hn]
  unfold trB
  by_cases hp : node % 2 = 0
  · rw [if_pos hp, if_pos hp, Int32.toBitVec_or, BitVec.getLsbD_or, h1]
    by_cases he : n = node / 2
    · rw [if_pos he]; simp [he]
    · rw [if_neg he]; simp [he]
  · rw [if_neg hp, if_neg hp, Int32.toBitVec_and, BitVec.getLsbD_and, Int32.toBitVec_xor, BitVec.getLsbD_xor, h1]
    have h3 : (-1 : Int32).toBitVec.getLsbD n = true := by
      revert n
      intro n hn _
      have : ∀ n, n < 8 → (-1 : Int32).toBitVec.getLsbD n = true := by decide +kernel
      exact this n hn
    rw [h3]
    by_cases he : n = node / 2
    · rw [if_pos he]; simp [he]
    · rw [if_neg he]; simp [he]
/-- bits above a node, both ways -/
theorem tree_tie (b0 : Nat) : ∀ (q node : Nat) (t : Int32) (g : Nat → Int32), node < 16 → (∀ n, 1 ≤ n → n < 8 → bitN t n = tb (g (b0 + n))) → ∀ n, 1 ≤ n → n < 8 → bitN (ptA q node t) n = tb (taF b0 q node g (b0 + n))
  | 0, _, _, _, _, h => h
  | q + 1, node, t, g, hn, h => by
    unfold ptA taF
    by_cases h1 : node ≤ 1
    · rw [if_pos h1, if_pos h1]; exact h
    · rw [if_neg h1, if_neg h1]
      refine tree_tie b0 q (node / 2) _ _ (by omega) ?_
      intro n n1 n8
      rw [trB_bit t (by omega) n8]
      by_cases he : n = node / 2
      · rw [if_pos he, he, pk_us]
        unfold tb
        by_cases hp : node % 2 = 0
        · rw [if_pos hp, if_pos hp]; rfl
        · rw [if_neg hp, if_neg hp]; rfl
      · rw [if_neg he, pk_un (by omega)]
        exact h n n1 n8
theorem taF_out (b0 : Nat) : ∀ (q node : Nat) (g : Nat → Int32) (j : Nat), node < 16 → (j < b0 ∨ b0 + 8 ≤ j) → taF b0 q node g j = g j
  | 0, _, _, _, _, _ => rfl
  | q + 1, node, g, j, hn, hj => by
    unfold taF
    by_cases h1 : node ≤ 1
    · rw [if_pos h1]
    · rw [if_neg h1, taF_out b0 q (node / 2) _ j (by omega) hj, pk_un (by omega)]
theorem TK6_pt {S wd : Nat} {c m : CS} {s w : Nat} (hs : s < S) (hw : w < wd) (h8 : wd ≤ 8) (h : ∀ s n, s < S → 1 ≤ n → n < 8 → bitN (c.2 22 s) n = tb (m.2 19 (8 * s + n))) :
    ∀ s' n, s' < S → 1 ≤ n → n < 8 → bitN (upd (c.2 22) s (ptA 4 (lvN wd + w) (c.2 22 s)) s') n = tb (taF (8 * s) 4 (lvN wd + w) (m.2 19) (8 * s' + n)) := by
  intro s' n hs' n1 n8
  have hP := lvN_8 wd
  have hPw := lvN_ge h8
  by_cases he : s' = s
  · subst he
    rw [pk_us]
    exact tree_tie (8 * s') 4 _ _ _ (by omega) (fun n n1 n8 => h s' n hs n1 n8) n n1 n8
  · rw [pk_un he, taF_out _ _ _ _ _ (by omega) (by omega)]
    exact h s' n hs' n1 n8
/-! rule 7 -/
theorem ltM_tie {S wd : Nat} {g h : Nat → Int32} (H : TI S wd g h) (h8 : wd ≤ 8) {s w : Nat} (hs : s < S) (hw : w < wd) : TI S wd (ltM g (s * wd) wd w) (ltM h (8 * s) wd w) := by
  have hu := H.up h8 (s := s) hw (rfl : (1 : Int32) = 1)
  have e : (fst1 (fun j => upd g (s * wd + w) 1 j == 0) (s * wd) wd).isSome = (fst1 (fun j => upd h (8 * s + w) 1 j == 0) (8 * s) wd).isSome := by
    rw [fst1_o _ (s * wd), fst1_o _ (8 * s), Option.isSome_map, Option.isSome_map]
    congr 1
    refine fst1_cong (fun j _ h2 => ?_)
    rw [hu s j hs (by omega)]
  unfold ltM
  rw [e]
  split
  · exact hu
  · intro s' w' hs' hw'
    unfold onl
    by_cases he : s' = s
    · subst he
      rw [if_pos (show s' * wd ≤ s' * wd + w' ∧ s' * wd + w' < s' * wd + wd by omega), if_pos (show 8 * s' ≤ 8 * s' + w' ∧ 8 * s' + w' < 8 * s' + wd by omega)]
      by_cases hw2 : w' = w
      · rw [if_pos (show s' * wd + w' = s' * wd + w by omega), if_pos (show 8 * s' + w' = 8 * s' + w by omega)]
      · rw [if_neg (show ¬ s' * wd + w' = s' * wd + w by omega), if_neg (show ¬ 8 * s' + w' = 8 * s' + w by omega)]
    · rw [if_neg (show ¬ (8 * s ≤ 8 * s' + w' ∧ 8 * s' + w' < 8 * s + wd) by omega), if_neg]
      · exact hu s' w' hs' hw'
      · intro q
        have : s' * wd + w' = s * wd + (s' * wd + w' - s * wd) := by omega
        exact he (slot_inj hw' (by omega) this).1
