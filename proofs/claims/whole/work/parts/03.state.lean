/-! THE STATE. The class's cells 0 .. 20, the rule's from 21 on, each at its address 'a k'; numbers 'v k', contents of arrays 'f k'. -/
/-- numbers: 0 through 1 places 2 accesses 3 fetched 4 writes 5 wentOut | 6 sets 7 width 8 slots | 9 room 10 size (rows) | 11 size 12 lineCount 13 doneCount (asks) | 14 size 15 seenNone (history). Arrays: 2 line 3 has 4 there 5 changed 6 locked | 8 line 9 there 10 changed (rows) | 12 lineOf 13 partOf 14 waiting 15 donePart 16 doneKind | 18 latest 19 seen | 20 kinds -/
def cF (G : EG) (a : Nat → Nat) (v : Nat → Int32) (f : Nat → Nat → Int32) (n V : Nat) (wr : va_W) : va_W :=
  (a 0, ob 0 [.ref (a 1), .ref (a 7), .ref (a 21), .ref (a 11), .ref (a 17), .ref (a 20), .int (v 0), .int (v 1), .int (v 2), .int (v 3), .int (v 4), .int (v 5)]) ::
  (a 1, ob 1 [.int (v 6), .int (v 7), .int (v 8), .ref (a 2), .ref (a 3), .ref (a 4), .ref (a 5), .ref (a 6)]) ::
  (a 2, aI G.2.1 n (f 2)) :: (a 3, aI G.2.2.1 n (f 3)) :: (a 4, aI G.2.1 n (f 4)) :: (a 5, aI G.2.1 n (f 5)) :: (a 6, aI G.2.2.1 n (f 6)) ::
  (a 7, ob 2 [.int (v 9), .ref (a 8), .ref (a 9), .ref (a 10), .int (v 10)]) :: (a 8, aI G.2.1 V (f 8)) :: (a 9, aI G.2.1 V (f 9)) :: (a 10, aI G.2.1 V (f 10)) ::
  (a 11, ob 3 [.ref (a 12), .ref (a 13), .ref (a 14), .ref (a 15), .ref (a 16), .int (v 11), .int (v 12), .int (v 13)]) :: (a 12, aI G.2.1 16 (f 12)) :: (a 13, aI G.2.1 16 (f 13)) :: (a 14, aI G.2.1 4 (f 14)) :: (a 15, aI G.2.1 16 (f 15)) :: (a 16, aI G.2.1 16 (f 16)) ::
  (a 17, ob 4 [.ref (a 18), .ref (a 19), .int (v 14), .int (v 15)]) :: (a 18, aI G.2.1 64 (f 18)) :: (a 19, aI G.2.1 64 (f 19)) :: (a 20, aI G.2.1 5 (f 20)) :: wr
/-- the rule's cells. Numbers: 16 number or leaves, 17 now, 18 beforeAll, 19 x. Arrays: 22 last, mark, tree, age; 23 came, hand; 24 uses -/
def rTime (G : EG) (a : Nat → Nat) (v : Nat → Int32) (f : Nat → Nat → Int32) (n : Nat) : va_W := [(a 21, ob 5 [.int (v 7), .int (v 16), .ref (a 22), .ref (a 23), .ref (a 24), .int (v 17), .int (v 18)]), (a 22, aI G.2.1 n (f 22)), (a 23, aI G.2.1 n (f 23)), (a 24, aI G.2.1 n (f 24))]
def rChance (a : Nat → Nat) (v : Nat → Int32) : va_W := [(a 21, ob 6 [.int (v 7), .int (v 19)])]
def rRound (G : EG) (a : Nat → Nat) (v : Nat → Int32) (f : Nat → Nat → Int32) (n S : Nat) : va_W := [(a 21, ob 7 [.int (v 7), .ref (a 22), .ref (a 23)]), (a 22, aI G.2.2.1 n (f 22)), (a 23, aI G.2.1 S (f 23))]
def rTree (G : EG) (a : Nat → Nat) (v : Nat → Int32) (f : Nat → Nat → Int32) (S : Nat) : va_W := [(a 21, ob 8 [.int (v 7), .int (v 16), .ref (a 22)]), (a 22, aI G.2.1 S (f 22))]
def rLately (G : EG) (a : Nat → Nat) (v : Nat → Int32) (f : Nat → Nat → Int32) (n : Nat) : va_W := [(a 21, ob 9 [.int (v 7), .ref (a 22)]), (a 22, aI G.2.2.1 n (f 22))]
def rAge (G : EG) (a : Nat → Nat) (v : Nat → Int32) (f : Nat → Nat → Int32) (n : Nat) : va_W := [(a 21, ob 10 [.int (v 7), .ref (a 22)]), (a 22, aI G.2.1 n (f 22))]
/-- the reference's cells: its object, then its arrays in the order of the fields; numbers and arrays by the field's place (object: 'a 40') -/
def mF (G : EG) (a : Nat → Nat) (v : Nat → Int32) (f : Nat → Nat → Int32) : va_W :=
  [(a 40, ob 11 [.int (v 0), .int (v 1), .int (v 2), .int (v 3), .int (v 4), .int (v 5), .int (v 6), .ref (a 7), .ref (a 8), .ref (a 9), .ref (a 10), .ref (a 11), .int (v 12), .ref (a 13), .ref (a 14), .ref (a 15), .ref (a 16), .ref (a 17), .ref (a 18), .ref (a 19), .int (v 20), .int (v 21), .ref (a 22), .ref (a 23), .ref (a 24), .int (v 25), .ref (a 26), .ref (a 27), .int (v 28), .ref (a 29), .ref (a 30), .int (v 31), .ref (a 32), .ref (a 33), .ref (a 34), .ref (a 35)]),
   (a 7, aI G.2.2.1 128 (f 7)), (a 8, aI G.2.1 128 (f 8)), (a 9, aI G.2.1 128 (f 9)), (a 10, aI G.2.1 128 (f 10)), (a 11, aI G.2.2.1 128 (f 11)), (a 13, aI G.2.1 128 (f 13)), (a 14, aI G.2.1 128 (f 14)), (a 15, aI G.2.1 128 (f 15)), (a 16, aI G.2.2.1 128 (f 16)), (a 17, aI G.2.1 128 (f 17)), (a 18, aI G.2.1 16 (f 18)), (a 19, aI G.2.2.1 128 (f 19)), (a 22, aI G.2.1 5 (f 22)), (a 23, aI G.2.1 5 (f 23)), (a 24, aI G.2.1 5 (f 24)), (a 26, aI G.2.1 16 (f 26)), (a 27, aI G.2.1 16 (f 27)), (a 29, aI G.2.1 16 (f 29)), (a 30, aI G.2.1 16 (f 30)), (a 32, aI G.2.1 65 (f 32)), (a 33, aI G.2.1 65 (f 33)), (a 34, aI G.2.1 9 (f 34)), (a 35, aI G.2.2.1 8 (f 35))]
/-- an array of the state exchanged -/
def up2 (f : Nat → Nat → Int32) (k : Nat) (g : Nat → Int32) : Nat → Nat → Int32 := fun j => if j = k then g else f j
/-- the first place from k on, of m places, that has P -/
def fst1 (P : Nat → Bool) : Nat → Nat → Option Nat
  | _, 0 => none
  | k, m + 1 => if P k then some k else fst1 P (k + 1) m
/-- the last one -/
def lst1 (P : Nat → Bool) : Nat → Nat → Option Nat
  | _, 0 => none
  | k, m + 1 => if P (k + m) then some (k + m) else lst1 P k m
def oI : Option Nat → Int32
  | none => -1
  | some k => nI k
def bI (b : Bool) : Int32 := if b then 1 else 0
/-- the class's sizes: S sets of wd ways -/
def CD (v : Nat → Int32) (S wd : Nat) : Prop := v 6 = nI S ∧ v 7 = nI wd ∧ v 8 = nI (S * wd) ∧ (∃ k, k ≤ 4 ∧ S = 2 ^ k) ∧ 1 ≤ wd ∧ wd ≤ 8
/-- a line's set -/
def sN (S : Nat) (x : Int32) : Nat := x.toBitVec.toNat % S
theorem CD.S16 {v : Nat → Int32} {S wd : Nat} (h : CD v S wd) : 1 ≤ S ∧ S ≤ 16 := by
  obtain ⟨-, -, -, ⟨k, hk, rfl⟩, -⟩ := h
  rcases (by omega : k = 0 ∨ k = 1 ∨ k = 2 ∨ k = 3 ∨ k = 4) with rfl | rfl | rfl | rfl | rfl <;> decide
theorem CD.n128 {v : Nat → Int32} {S wd : Nat} (h : CD v S wd) : S * wd ≤ 128 := by
  have h1 := h.S16
  obtain ⟨-, -, -, -, h2, h3⟩ := h
  calc S * wd ≤ 16 * 8 := Nat.mul_le_mul h1.2 h3
    _ = 128 := rfl
theorem sN_lt {v : Nat → Int32} {S wd : Nat} (h : CD v S wd) (x : Int32) : sN S x < S := Nat.mod_lt _ h.S16.1
theorem slot_lt {S wd s w : Nat} (hs : s < S) (hw : w < wd) : s * wd + w < S * wd := by
  calc s * wd + w < s * wd + wd := by omega
    _ = (s + 1) * wd := by rw [Nat.succ_mul]
    _ ≤ S * wd := Nat.mul_le_mul_right _ hs
theorem setOf_eq {v : Nat → Int32} {S wd : Nat} (h : CD v S wd) (x : Int32) : x &&& (v 6 - 1) = nI (sN S x) := by
  obtain ⟨h6, -, -, ⟨k, hk, rfl⟩, -⟩ := h
  rw [h6]
  refine pk_and x k ?_
  rcases (by omega : k = 0 ∨ k = 1 ∨ k = 2 ∨ k = 3 ∨ k = 4) with rfl | rfl | rfl | rfl | rfl <;> decide +kernel
theorem fst1_some {P : Nat → Bool} : ∀ {m k j : Nat}, fst1 P k m = some j → k ≤ j ∧ j < k + m ∧ P j = true
  | 0, _, _, h => by cases h
  | m + 1, k, j, h => by
    unfold fst1 at h
    by_cases hp : P k = true
    · rw [if_pos hp] at h
      cases h
      exact ⟨Nat.le_refl _, by omega, hp⟩
    · rw [if_neg hp] at h
      obtain ⟨h1, h2, h3⟩ := fst1_some h
      exact ⟨by omega, by omega, h3⟩
/-- shifted down by one, from lo to hi -/
def shf (g : Nat → Int32) (lo hi : Nat) : Nat → Int32 := fun j => if lo ≤ j ∧ j < hi then g (j + 1) else g j
theorem shf_0 (g : Nat → Int32) (lo : Nat) : shf g lo lo = g := by
  funext j
  unfold shf
  rw [if_neg (by omega)]
theorem shf_s {g : Nat → Int32} {lo k : Nat} (h : lo ≤ k) : shf g lo (k + 1) = upd (shf g lo k) k (shf g lo k (k + 1)) := by
  funext j
  by_cases hj : j = k
  · subst hj
    rw [pk_us]
    unfold shf
    rw [if_pos (by omega), if_neg (by omega)]
  · rw [pk_un hj]
    unfold shf
    by_cases h2 : lo ≤ j ∧ j < k
    · rw [if_pos (by omega), if_pos h2]
    · rw [if_neg (by omega), if_neg h2]
/-- shifted up by one, behind lo up to hi -/
def shu (g : Nat → Int32) (lo hi : Nat) : Nat → Int32 := fun j => if lo < j ∧ j ≤ hi then g (j - 1) else g j
theorem shu_0 (g : Nat → Int32) (hi : Nat) : shu g hi hi = g := by
  funext j
  unfold shu
  rw [if_neg (by omega)]
theorem shu_s {g : Nat → Int32} {k hi : Nat} (h : k + 1 ≤ hi) : shu g k hi = upd (shu g (k + 1) hi) (k + 1) (shu g (k + 1) hi k) := by
  funext j
  by_cases hj : j = k + 1
  · subst hj
    rw [pk_us]
    unfold shu
    rw [if_pos (by omega), if_neg (by omega)]
    rfl
  · rw [pk_un hj]
    unfold shu
    by_cases h2 : k + 1 < j ∧ j ≤ hi
    · rw [if_pos (by omega), if_pos h2]
    · rw [if_neg (by omega), if_neg h2]
/-- a sum that grows -/
def accF (g : Nat → Int32) : Int32 → Nat → Nat → Int32
  | s, _, 0 => s
  | s, k, m + 1 => accF g (s + g k) (k + 1) m
theorem up2_s (f : Nat → Nat → Int32) (k : Nat) (g : Nat → Int32) : up2 f k g k = g := by simp [up2]
theorem up2_n {f : Nat → Nat → Int32} {k j : Nat} (g : Nat → Int32) (h : j ≠ k) : up2 f k g j = f j := by simp [up2, h]
/-- the best one among those that are not barred, from k on, m of them; b is the best one so far -/
def pickB (lk : Nat → Bool) (better : Nat → Nat → Bool) : Option Nat → Nat → Nat → Option Nat
  | b, _, 0 => b
  | b, k, m + 1 => pickB lk better (if lk k then b else match b with
    | none => some k
    | some j => if better k j then some k else some j) (k + 1) m
theorem upd_uu (f : Nat → Int32) (k : Nat) (x y : Int32) : upd (upd f k x) k y = upd f k y := by
  funext j
  by_cases hj : j = k <;> simp [upd, hj]
