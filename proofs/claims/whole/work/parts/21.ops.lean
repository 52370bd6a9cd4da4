/-! THE CLASS'S OWN STEPS, as functions of its state, and what they keep -/
def popI (x : Int32) : Int32 := nI (pop4 x.toBitVec.toNat)
theorem popI_eq {b : Nat} (h : b < 16) : popI (nI b) = nI (pop4 b) := by
  unfold popI
  rw [pk_tn (by omega)]
/-- four bits -/
def NB (x : Int32) : Prop := ∃ b, b < 16 ∧ x = nI b
theorem NB.z : NB 0 := ⟨0, by omega, rfl⟩
theorem or16 : ∀ p, p < 16 → ∀ q, q < 16 → nI p ||| nI q = nI (p ||| q) ∧ p ||| q < 16 := by decide +kernel
theorem NB.or {x y : Int32} (hx : NB x) (hy : NB y) : NB (x ||| y) := by
  obtain ⟨p, hp, rfl⟩ := hx
  obtain ⟨q, hq, rfl⟩ := hy
  exact ⟨p ||| q, (or16 p hp q hq).2, (or16 p hp q hq).1⟩
theorem NB.up {g : Nat → Int32} (h : ∀ j, NB (g j)) (k : Nat) {x : Int32} (hx : NB x) : ∀ j, NB (upd g k x j) := by
  intro j
  by_cases hj : j = k
  · subst hj
    rw [pk_us]
    exact hx
  · rw [pk_un hj]
    exact h j
theorem NB.sh {g : Nat → Int32} (h : ∀ j, NB (g j)) (lo hi : Nat) : ∀ j, NB (shf g lo hi j) := by
  intro j
  unfold shf
  split
  · exact h _
  · exact h _
/-- how many rows -/
def nz (c : CS) : Nat := (c.1 10).toNatClampNeg
theorem nz_eq {c : CS} {V z : Nat} (h : RD c.1 V z) : nz c = z := by
  unfold nz
  rw [h.2.1]
  exact nI_clamp (by have := h.2.2; omega)
/-- the rule's part is the same -/
def RA (c c' : CS) : Prop := (c'.1 6 = c.1 6 ∧ c'.1 7 = c.1 7 ∧ c'.1 8 = c.1 8 ∧ c'.1 16 = c.1 16 ∧ c'.1 17 = c.1 17 ∧ c'.1 18 = c.1 18 ∧ c'.1 19 = c.1 19) ∧ c'.2 22 = c.2 22 ∧ c'.2 23 = c.2 23 ∧ c'.2 24 = c.2 24
theorem RA.rw {c c' : CS} (h : RA c c') (G : EG) (a : Nat → Nat) (n S kd : Nat) : rW G a c'.1 c'.2 n S kd = rW G a c.1 c.2 n S kd := by
  obtain ⟨⟨h6, h7, h8, h16, h17, h18, h19⟩, f22, f23, f24⟩ := h
  unfold rW
  split <;> simp only [rTime, rChance, rRound, rTree, rLately, rAge, h7, h16, h17, h18, h19, f22, f23, f24]
theorem RA.rc {c c' : CS} (h : RA c c') {S wd kd : Nat} (hc : RC S wd kd c) : RC S wd kd c' := by
  obtain ⟨⟨h6, h7, h8, h16, h17, h18, h19⟩, f22, f23, f24⟩ := h
  obtain ⟨⟨c6, c7, c8, cr⟩, hI, hk⟩ := hc
  refine ⟨⟨h6.trans c6, h7.trans c7, h8.trans c8, cr⟩, ?_, hk⟩
  rcases kd_cases hk with rfl | rfl | rfl | rfl | rfl | rfl | rfl | rfl | rfl | rfl
  · obtain ⟨x, hx, he⟩ := hI
    exact ⟨x, hx, h19.trans he⟩
  · intro s hs
    obtain ⟨h0, hh, he⟩ := hI s hs
    exact ⟨h0, hh, by rw [f23]; exact he⟩
  · exact h16.trans hI
  all_goals trivial
/-- the cells behind a step that leaves the rule alone -/
theorem wK_of {c c' : CS} (h : RA c c') (G : EG) (a : Nat → Nat) (S wd V kd : Nat) : cF G a c'.1 c'.2 (S * wd) V (rW G a c.1 c.2 (S * wd) S kd) = wK G a c' S wd V kd := by
  show _ = cF G a c'.1 c'.2 (S * wd) V (rW G a c'.1 c'.2 (S * wd) S kd)
  rw [h.rw]
/-- what the class keeps (asks and history apart) -/
def CI (S wd V kd : Nat) (c : CS) : Prop := RC S wd kd c ∧ (∃ z, RD c.1 V z) ∧ (∀ j, NB (c.2 5 j)) ∧ ∀ j, NB (c.2 10 j)
/-- a line goes out of its way -/
def poS (V : Nat) (c : CS) (j : Nat) : CS :=
  if V = 0 then (upd (upd c.1 5 (c.1 5 + 1)) 4 (c.1 4 + popI (c.2 5 j)), c.2)
  else if nz c < V then (upd (upd c.1 5 (c.1 5 + 1)) 10 (nI (nz c + 1)), raF c.2 (nz c) (c.2 2 j) (c.2 4 j) (c.2 5 j))
  else (upd (upd (upd (upd c.1 5 (c.1 5 + 1)) 4 (c.1 4 + popI (c.2 10 0))) 10 (nI (V - 1))) 10 (nI (V - 1 + 1)), raF (rmF c.2 0 (V - 1)) (V - 1) (c.2 2 j) (c.2 4 j) (c.2 5 j))
theorem poS_RA (V : Nat) (c : CS) (j : Nat) : RA c (poS V c j) := by
  unfold poS
  split
  · exact ⟨⟨rfl, rfl, rfl, rfl, rfl, rfl, rfl⟩, rfl, rfl, rfl⟩
  · split <;> exact ⟨⟨rfl, rfl, rfl, rfl, rfl, rfl, rfl⟩, rfl, rfl, rfl⟩
theorem poS_CI {S wd V kd : Nat} {c : CS} (h : CI S wd V kd c) (j : Nat) : CI S wd V kd (poS V c j) := by
  obtain ⟨hC, ⟨z, hz⟩, h5, h10⟩ := h
  refine ⟨(poS_RA V c j).rc hC, ?_, ?_, ?_⟩
  · have he := nz_eq hz
    obtain ⟨r9, r10, r1, r2⟩ := hz
    unfold poS
    split
    · exact ⟨z, r9, r10, r1, r2⟩
    · split
      · rename_i hlt
        rw [he] at hlt ⊢
        exact ⟨z + 1, r9, rfl, hlt, r2⟩
      · exact ⟨V - 1 + 1, r9, rfl, by omega, r2⟩
  · unfold poS
    split
    · exact h5
    · split <;> exact h5
  · unfold poS
    split
    · exact h10
    · split
      · exact NB.up h10 _ (h5 j)
      · exact NB.up (NB.sh h10 _ _) _ (h5 j)
/-- a line put -/
theorem putF_RA (c : CS) (j : Nat) (x t ch : Int32) : RA c (c.1, putF c.2 j x t ch) := ⟨⟨rfl, rfl, rfl, rfl, rfl, rfl, rfl⟩, rfl, rfl, rfl⟩
theorem putF_CI {S wd V kd : Nat} {c : CS} (h : CI S wd V kd c) (j : Nat) (x t : Int32) {ch : Int32} (hc : NB ch) : CI S wd V kd (c.1, putF c.2 j x t ch) :=
  ⟨(putF_RA c j x t ch).rc h.1, h.2.1, NB.up h.2.2.1 _ hc, h.2.2.2⟩
/-- a rule's step leaves the rest alone -/
def RO (c c' : CS) : Prop := (∀ k, k < 16 → c'.1 k = c.1 k) ∧ ∀ k, k < 22 → c'.2 k = c.2 k
theorem RO.rf (c : CS) : RO c c := ⟨fun _ _ => rfl, fun _ _ => rfl⟩
theorem RO.f {c : CS} {v : Nat → Int32} {f : Nat → Nat → Int32} (hv : ∀ k, k < 16 → v k = c.1 k) (hf : ∀ k, k < 22 → f k = c.2 k) : RO c (v, f) := ⟨hv, hf⟩
theorem up_lt {v : Nat → Int32} {k j : Nat} {x : Int32} (h : j < k) : upd v k x j = v j := pk_un (by omega)
theorem up2_lt {f : Nat → Nat → Int32} {k j : Nat} {g : Nat → Int32} (h : j < k) : up2 f k g j = f j := up2_n g (by omega)
theorem rUse_RO (wd kd : Nat) (c : CS) (s w : Nat) : RO c (rUse wd kd c s w) := by
  unfold rUse
  split
  · exact RO.rf c
  all_goals refine ⟨fun k hk => ?_, fun k hk => ?_⟩
  all_goals first | rfl | (simp only [up_lt (show k < 17 by omega)]; done) | (simp only [up2_lt (show k < 22 by omega)]; done) | (simp only [up2_lt (show k < 22 by omega), up2_lt (show k < 24 by omega)])
theorem rCome_RO (wd kd : Nat) (c : CS) (s w : Nat) : RO c (rCome wd kd c s w) := by
  unfold rCome
  split
  · exact RO.rf c
  all_goals refine ⟨fun k hk => ?_, fun k hk => ?_⟩
  all_goals first | rfl | (simp only [up_lt (show k < 18 by omega), up_lt (show k < 17 by omega)]; done) | (simp only [up2_lt (show k < 22 by omega)]; done) | (simp only [up2_lt (show k < 22 by omega), up2_lt (show k < 23 by omega), up2_lt (show k < 24 by omega)])
theorem rSettle_RO (wd kd : Nat) (c : CS) (s w : Nat) : RO c (rSettle wd kd c s w) := by
  unfold rSettle
  split
  all_goals first | exact RO.rf c | refine ⟨fun k hk => ?_, fun k hk => ?_⟩
  all_goals first | rfl | (simp only [up_lt (show k < 19 by omega)]; done) | (simp only [up2_lt (show k < 22 by omega)]; done) | (simp only [up2_lt (show k < 22 by omega), up2_lt (show k < 23 by omega)])
theorem RO.cd {c c' : CS} (h : RO c c') {S wd : Nat} (hc : CD c.1 S wd) : CD c'.1 S wd := ⟨(h.1 6 (by omega)).trans hc.1, (h.1 7 (by omega)).trans hc.2.1, (h.1 8 (by omega)).trans hc.2.2.1, hc.2.2.2⟩
theorem RO.ci {c c' : CS} (h : RO c c') {S wd V kd : Nat} (hc : CI S wd V kd c) (hi : RI S wd kd c') : CI S wd V kd c' := by
  obtain ⟨⟨hC, -, hk⟩, ⟨z, z1, z2, z3⟩, h5, h10⟩ := hc
  exact ⟨⟨h.cd hC, hi, hk⟩, ⟨z, (h.1 9 (by omega)).trans z1, (h.1 10 (by omega)).trans z2, z3⟩, by rw [h.2 5 (by omega)]; exact h5, by rw [h.2 10 (by omega)]; exact h10⟩
theorem rUse_CI {S wd V kd : Nat} {c : CS} (h : CI S wd V kd c) (s w : Nat) : CI S wd V kd (rUse wd kd c s w) := by
  refine (rUse_RO wd kd c s w).ci h ?_
  obtain ⟨⟨-, hI, hk⟩, -⟩ := h
  rcases kd_cases hk with rfl | rfl | rfl | rfl | rfl | rfl | rfl | rfl | rfl | rfl
  · exact hI
  · exact hI
  · exact hI
  all_goals trivial
theorem rCome_CI {S wd V kd : Nat} {c : CS} (h : CI S wd V kd c) (s w : Nat) : CI S wd V kd (rCome wd kd c s w) := by
  refine (rCome_RO wd kd c s w).ci h ?_
  obtain ⟨⟨-, hI, hk⟩, -⟩ := h
  rcases kd_cases hk with rfl | rfl | rfl | rfl | rfl | rfl | rfl | rfl | rfl | rfl
  · exact hI
  · exact hI
  · exact hI
  all_goals trivial
theorem nxt_lt {wd w : Nat} (h : 1 ≤ wd) : nxt wd w < wd := by
  unfold nxt
  split <;> omega
theorem rSettle_CI {S wd V kd : Nat} {c : CS} (h : CI S wd V kd c) (s w : Nat) : CI S wd V kd (rSettle wd kd c s w) := by
  refine (rSettle_RO wd kd c s w).ci h ?_
  obtain ⟨⟨hC, hI, hk⟩, -⟩ := h
  rcases kd_cases hk with rfl | rfl | rfl | rfl | rfl | rfl | rfl | rfl | rfl | rfl
  · refine ⟨((1103515245 * c.1 19 + 12345 : Int32).toBitVec.toNat) % 2 ^ 31, Nat.mod_lt _ (by decide), ?_⟩
    show ((1103515245 * c.1 19 + 12345) &&& 2147483647 : Int32) = _
    exact pk_and _ 31 (by decide)
  · intro s2 hs2
    show ∃ h0, h0 < wd ∧ upd (c.2 23) s (nI (nxt wd w)) s2 = nI h0
    by_cases hj : s2 = s
    · subst hj
      exact ⟨nxt wd w, nxt_lt hC.2.2.2.2.1, pk_us⟩
    · rw [pk_un hj]
      exact hI s2 hs2
  · exact hI
  all_goals trivial
/-- a line is placed -/
def plS (S wd V kd : Nat) (c : CS) (x t ch : Int32) : CS := match fst1 (fun w => c.2 3 (sN S x * wd + w) == 0) 0 wd with
  | some w => rCome wd kd (c.1, putF c.2 (sN S x * wd + w) x t ch) (sN S x) w
  | none => match rChoose wd kd c (sN S x) with
    | none => c
    | some w => rCome wd kd ((poS V (rSettle wd kd c (sN S x) w) (sN S x * wd + w)).1, putF (poS V (rSettle wd kd c (sN S x) w) (sN S x * wd + w)).2 (sN S x * wd + w) x t ch) (sN S x) w
theorem plS_CI {S wd V kd : Nat} {c : CS} (h : CI S wd V kd c) (x t : Int32) {ch : Int32} (hc : NB ch) : CI S wd V kd (plS S wd V kd c x t ch) := by
  unfold plS
  split
  · exact rCome_CI (putF_CI h _ _ _ hc) _ _
  · split
    · exact h
    · exact rCome_CI (putF_CI (poS_CI (rSettle_CI h _ _) _) _ _ _ hc) _ _
/-- a part is written -/
def wpS (S wd : Nat) (c : CS) (x bit : Int32) : CS := if ¬ c.1 0 = 0 then (upd c.1 4 (c.1 4 + 1), c.2) else match fst1 (hasL c.2 x) (sN S x * wd) wd with
  | some j => (c.1, up2 c.2 5 (upd (c.2 5) j (c.2 5 j ||| bit)))
  | none => match fst1 (fun k => c.2 8 k == x) 0 (nz c) with
    | some k => (c.1, up2 c.2 10 (upd (c.2 10) k (c.2 10 k ||| bit)))
    | none => (upd c.1 4 (c.1 4 + 1), c.2)
theorem wpS_RA (S wd : Nat) (c : CS) (x bit : Int32) : RA c (wpS S wd c x bit) := by
  unfold wpS
  split
  · exact ⟨⟨rfl, rfl, rfl, rfl, rfl, rfl, rfl⟩, rfl, rfl, rfl⟩
  · split
    · exact ⟨⟨rfl, rfl, rfl, rfl, rfl, rfl, rfl⟩, rfl, rfl, rfl⟩
    · split <;> exact ⟨⟨rfl, rfl, rfl, rfl, rfl, rfl, rfl⟩, rfl, rfl, rfl⟩
theorem wpS_CI {S wd V kd : Nat} {c : CS} (h : CI S wd V kd c) (x : Int32) {bit : Int32} (hb : NB bit) : CI S wd V kd (wpS S wd c x bit) := by
  refine ⟨(wpS_RA S wd c x bit).rc h.1, ?_, ?_, ?_⟩
  all_goals obtain ⟨-, ⟨z, hz⟩, h5, h10⟩ := h
  · unfold wpS
    split
    · exact ⟨z, hz⟩
    · split
      · exact ⟨z, hz⟩
      · split <;> exact ⟨z, hz⟩
  · unfold wpS
    split
    · exact h5
    · split
      · exact NB.up h5 _ ((h5 _).or hb)
      · split <;> exact h5
  · unfold wpS
    split
    · exact h10
    · split
      · exact h10
      · split
        · exact NB.up h10 _ ((h10 _).or hb)
        · exact h10
/-- a way is used -/
def uwS (wd kd : Nat) (c : CS) (s w : Nat) (bit : Int32) : CS × Int32 := if c.2 4 (s * wd + w) &&& bit = 0 then
    ((upd (rUse wd kd c s w).1 3 (c.1 3 + 1), up2 (rUse wd kd c s w).2 4 (upd (c.2 4) (s * wd + w) (c.2 4 (s * wd + w) ||| bit))), 1)
  else (rUse wd kd c s w, 0)
/-- a row's part is fetched -/
def ftS (c : CS) (k : Nat) (bit : Int32) : CS := if c.2 9 k &&& bit = 0 then (upd c.1 3 (c.1 3 + 1), up2 c.2 9 (upd (c.2 9) k (c.2 9 k ||| bit))) else c
/-- a caught line comes back -/
def rcS (S wd V kd : Nat) (c : CS) (k : Nat) (bit : Int32) : CS := if allL (ftS c k bit).2 wd (sN S (c.2 8 k)) = true then ftS c k bit
  else plS S wd V kd (upd (ftS c k bit).1 10 (nI (nz c - 1)), rmF (ftS c k bit).2 k (nz c - 1)) (c.2 8 k) ((ftS c k bit).2 9 k) (c.2 10 k)
/-- a line is reached -/
def rhS (S wd V kd : Nat) (c : CS) (x bit wr : Int32) : CS × Int32 := match fst1 (hasL c.2 x) (sN S x * wd) wd with
  | some j => uwS wd kd c (sN S x) (j - sN S x * wd) bit
  | none => match fst1 (fun k => c.2 8 k == x) 0 (nz c) with
    | some k => (rcS S wd V kd c k bit, 2)
    | none => if ¬ wr = 0 ∧ c.1 1 = 0 then (c, 3)
      else if allL c.2 wd (sN S x) = true then ((upd c.1 3 (c.1 3 + 1), c.2), 4)
      else (plS S wd V kd (upd c.1 3 (c.1 3 + 1), c.2) x bit 0, 3)
