/-! WHAT THE STEPS KEEP -/
theorem pickB_lt {lk : Nat → Bool} {bt : Nat → Nat → Bool} {N : Nat} : ∀ {m k : Nat} {b : Option Nat} {w : Nat}, k + m ≤ N → (∀ j, b = some j → j < N ∧ lk j = false) → pickB lk bt b k m = some w → w < N ∧ lk w = false
  | 0, _, b, w, _, hb, h => hb w h
  | m + 1, k, b, w, hk, hb, h => by
    unfold pickB at h
    refine pickB_lt (by omega) ?_ h
    intro j hj
    by_cases hl : lk k = true
    · rw [if_pos hl] at hj
      exact hb j hj
    · rw [if_neg hl] at hj
      have hl : lk k = false := by simpa using hl
      cases b with
      | none => cases hj; exact ⟨by omega, hl⟩
      | some i =>
        dsimp only at hj
        split at hj
        · cases hj; exact ⟨by omega, hl⟩
        · exact hb j hj
theorem rndC_lt {lk mk : Nat → Bool} {wy : Nat → Nat} {N : Nat} (hwy : ∀ k, k < N → wy k < N) : ∀ {m k : Nat} {b : Option Nat} {w : Nat}, k + m ≤ N → (∀ j, b = some j → j < N ∧ lk j = false) → rndC lk mk wy b k m = some w → w < N ∧ lk w = false
  | 0, _, b, w, _, hb, h => hb w h
  | m + 1, k, b, w, hk, hb, h => by
    unfold rndC at h
    by_cases hl : lk (wy k) = true
    · rw [if_pos hl] at h
      exact rndC_lt hwy (by omega) hb h
    · rw [if_neg hl] at h
      have hl : lk (wy k) = false := by simpa using hl
      by_cases hm : mk (wy k) = true
      · rw [if_pos hm] at h
        refine rndC_lt hwy (by omega) ?_ h
        intro j hj
        cases b with
        | none => cases hj; exact ⟨hwy k (by omega), hl⟩
        | some i => exact hb j hj
      · rw [if_neg hm] at h
        cases h
        exact ⟨hwy k (by omega), hl⟩
theorem nthU_lt {lk : Nat → Bool} {N : Nat} : ∀ {m t k w : Nat}, k + m ≤ N → nthU lk t k m = some w → w < N ∧ lk w = false
  | 0, _, _, _, _, h => by cases h
  | m + 1, t, k, w, hk, h => by
    unfold nthU at h
    by_cases hl : lk k = true
    · rw [if_pos hl] at h
      exact nthU_lt (by omega) h
    · rw [if_neg hl] at h
      have hl : lk k = false := by simpa using hl
      split at h
      · cases h; exact ⟨by omega, hl⟩
      · exact nthU_lt (by omega) h
theorem rChoose_lt {S wd kd : Nat} {c : CS} (h : RC S wd kd c) {s w : Nat} (hs : s < S) (hw : rChoose wd kd c s = some w) : w < wd ∧ lkd c.2 wd s w = false := by
  obtain ⟨hC, hI, hk⟩ := h
  have hw8 := hC.2.2.2.2
  rcases kd_cases hk with rfl | rfl | rfl | rfl | rfl | rfl | rfl | rfl | rfl | rfl
  · simp only [rChoose, chC] at hw
    split at hw
    · cases hw
    · exact nthU_lt (by omega) hw
  · obtain ⟨h0, hh, he⟩ := hI s hs
    simp only [rChoose, he, nI_clamp (show h0 < 2 ^ 31 by omega)] at hw
    exact rndC_lt (fun k hk => wfh_lt hh hk) (by omega) (fun j hj => by cases hj) hw
  · simp only [rChoose, trP] at hw
    obtain ⟨k, hk1, hk2⟩ := Option.map_eq_some_iff.mp hw
    have h3 := (fst1_some hk1).2.2
    simp only [Bool.and_eq_true, decide_eq_true_eq, Bool.not_eq_true'] at h3
    rw [hk2] at h3
    exact h3
  · exact rndC_lt (fun k hk => hk) (by omega) (fun j hj => by cases hj) hw
  all_goals exact pickB_lt (by omega) (fun j hj => by cases hj) hw
/-- history, asks, flags and sizes are left alone, and what is locked -/
def KP (c c' : CS) : Prop := (∀ k, k < 16 → k ≠ 3 → k ≠ 4 → k ≠ 5 → k ≠ 10 → c'.1 k = c.1 k) ∧ ∀ k, k < 22 → (k = 6 ∨ 11 < k) → c'.2 k = c.2 k
theorem KP.rf (c : CS) : KP c c := ⟨fun _ _ _ _ _ _ => rfl, fun _ _ _ => rfl⟩
theorem KP.tr {a b c : CS} (h : KP a b) (h2 : KP b c) : KP a c := ⟨fun k k1 k2 k3 k4 k5 => (h2.1 k k1 k2 k3 k4 k5).trans (h.1 k k1 k2 k3 k4 k5), fun k k1 k2 => (h2.2 k k1 k2).trans (h.2 k k1 k2)⟩
theorem RO.kp {c c' : CS} (h : RO c c') : KP c c' := ⟨fun k k1 _ _ _ _ => h.1 k k1, fun k k1 _ => h.2 k k1⟩
theorem poS_KP (V : Nat) (c : CS) (j : Nat) : KP c (poS V c j) := by
  unfold poS
  split
  · exact ⟨fun k k1 k2 k3 k4 k5 => by simp only [pk_un k3, pk_un k4], fun _ _ _ => rfl⟩
  · split
    · exact ⟨fun k k1 k2 k3 k4 k5 => by simp only [pk_un k5, pk_un k4], fun k k1 k2 => by simp only [raF, up2_n _ (show k ≠ 8 by omega), up2_n _ (show k ≠ 9 by omega), up2_n _ (show k ≠ 10 by omega)]⟩
    · exact ⟨fun k k1 k2 k3 k4 k5 => by simp only [pk_un k5, pk_un k4, pk_un k3], fun k k1 k2 => by simp only [raF, rmF, up2_n _ (show k ≠ 8 by omega), up2_n _ (show k ≠ 9 by omega), up2_n _ (show k ≠ 10 by omega)]⟩
theorem putF_KP (c : CS) (j : Nat) (x t ch : Int32) : KP c (c.1, putF c.2 j x t ch) := ⟨fun _ _ _ _ _ _ => rfl, fun k k1 k2 => by simp only [putF, up2_n _ (show k ≠ 2 by omega), up2_n _ (show k ≠ 3 by omega), up2_n _ (show k ≠ 4 by omega), up2_n _ (show k ≠ 5 by omega)]⟩
theorem plS_KP (S wd V kd : Nat) (c : CS) (x t ch : Int32) : KP c (plS S wd V kd c x t ch) := by
  unfold plS
  split
  · exact (putF_KP c _ _ _ _).tr (rCome_RO _ _ _ _ _).kp
  · split
    · exact KP.rf c
    · exact (rSettle_RO _ _ _ _ _).kp.tr ((poS_KP _ _ _).tr ((putF_KP (poS V _ _) _ _ _ _).tr (rCome_RO _ _ _ _ _).kp))
theorem wpS_KP (S wd : Nat) (c : CS) (x bit : Int32) : KP c (wpS S wd c x bit) := by
  unfold wpS
  split
  · exact ⟨fun k k1 k2 k3 k4 k5 => pk_un k3, fun _ _ _ => rfl⟩
  · split
    · exact ⟨fun _ _ _ _ _ _ => rfl, fun k k1 k2 => up2_n _ (by omega)⟩
    · split
      · exact ⟨fun _ _ _ _ _ _ => rfl, fun k k1 k2 => up2_n _ (by omega)⟩
      · exact ⟨fun k k1 k2 k3 k4 k5 => pk_un k3, fun _ _ _ => rfl⟩
theorem ftS_KP (c : CS) (k : Nat) (bit : Int32) : KP c (ftS c k bit) := by
  unfold ftS
  split
  · exact ⟨fun k k1 k2 k3 k4 k5 => pk_un k2, fun k k1 k2 => up2_n _ (by omega)⟩
  · exact KP.rf c
theorem rcS_KP (S wd V kd : Nat) (c : CS) (k : Nat) (bit : Int32) : KP c (rcS S wd V kd c k bit) := by
  unfold rcS
  split
  · exact ftS_KP c k bit
  · refine (ftS_KP c k bit).tr (KP.tr ?_ (plS_KP _ _ _ _ _ _ _ _))
    exact ⟨fun k k1 k2 k3 k4 k5 => pk_un k5, fun k k1 k2 => by simp only [rmF, up2_n _ (show k ≠ 8 by omega), up2_n _ (show k ≠ 9 by omega), up2_n _ (show k ≠ 10 by omega)]⟩
theorem uwS_KP (wd kd : Nat) (c : CS) (s w : Nat) (bit : Int32) : KP c (uwS wd kd c s w bit).1 := by
  unfold uwS
  split
  · refine (rUse_RO wd kd c s w).kp.tr ?_
    exact ⟨fun k k1 k2 k3 k4 k5 => pk_un k2, fun k k1 k2 => up2_n _ (by omega)⟩
  · exact (rUse_RO wd kd c s w).kp
theorem rhS_KP (S wd V kd : Nat) (c : CS) (x bit wr : Int32) : KP c (rhS S wd V kd c x bit wr).1 := by
  unfold rhS
  split
  · exact uwS_KP _ _ _ _ _ _
  · split
    · exact rcS_KP _ _ _ _ _ _ _
    · split
      · exact KP.rf c
      · split
        · exact ⟨fun k k1 k2 k3 k4 k5 => pk_un k2, fun _ _ _ => rfl⟩
        · refine KP.tr ?_ (plS_KP _ _ _ _ _ _ _ _)
          exact ⟨fun k k1 k2 k3 k4 k5 => pk_un k2, fun _ _ _ => rfl⟩
theorem ftS_CI {S wd V kd : Nat} {c : CS} (h : CI S wd V kd c) (k : Nat) (bit : Int32) : CI S wd V kd (ftS c k bit) := by
  unfold ftS
  split
  · exact ⟨RA.rc (c := c) ⟨⟨rfl, rfl, rfl, rfl, rfl, rfl, rfl⟩, rfl, rfl, rfl⟩ h.1, h.2.1, h.2.2.1, h.2.2.2⟩
  · exact h
theorem f3_CI {S wd V kd : Nat} {c : CS} (h : CI S wd V kd c) (y : Int32) : CI S wd V kd (upd c.1 3 y, c.2) := ⟨RA.rc (c := c) ⟨⟨rfl, rfl, rfl, rfl, rfl, rfl, rfl⟩, rfl, rfl, rfl⟩ h.1, h.2.1, h.2.2.1, h.2.2.2⟩
theorem rcS_CI {S wd V kd : Nat} {c : CS} (h : CI S wd V kd c) {k : Nat} (hk : k < nz c) (bit : Int32) : CI S wd V kd (rcS S wd V kd c k bit) := by
  unfold rcS
  have h1 := ftS_CI h k bit
  obtain ⟨z, hz⟩ := h.2.1
  have hze := nz_eq hz
  split
  · exact h1
  · refine plS_CI ?_ _ _ (h.2.2.2 k)
    obtain ⟨z1, hz1⟩ := h1.2.1
    exact ⟨RA.rc (c := ftS c k bit) ⟨⟨rfl, rfl, rfl, rfl, rfl, rfl, rfl⟩, rfl, rfl, rfl⟩ h1.1, ⟨nz c - 1, hz1.1, rfl, by rw [hze]; have := hz.2.2; omega, hz1.2.2.2⟩, h1.2.2.1, NB.sh h1.2.2.2 _ _⟩
theorem uwS_CI {S wd V kd : Nat} {c : CS} (h : CI S wd V kd c) (s w : Nat) (bit : Int32) : CI S wd V kd (uwS wd kd c s w bit).1 := by
  unfold uwS
  have h1 := rUse_CI h s w
  split
  · exact ⟨RA.rc (c := rUse wd kd c s w) ⟨⟨rfl, rfl, rfl, rfl, rfl, rfl, rfl⟩, rfl, rfl, rfl⟩ h1.1, h1.2.1, h1.2.2.1, h1.2.2.2⟩
  · exact h1
theorem rhS_CI {S wd V kd : Nat} {c : CS} (h : CI S wd V kd c) (x bit wr : Int32) : CI S wd V kd (rhS S wd V kd c x bit wr).1 := by
  unfold rhS
  split
  · exact uwS_CI h _ _ _
  · split
    · rename_i k hk
      exact rcS_CI h (by have := fst1_some hk; omega) bit
    · split
      · exact h
      · split
        · exact f3_CI h _
        · exact plS_CI (f3_CI h _) _ _ NB.z
/-- how an access was: five kinds -/
theorem rhS_kind (S wd V kd : Nat) (c : CS) (x bit wr : Int32) : ∃ q, q < 5 ∧ (rhS S wd V kd c x bit wr).2 = nI q := by
  unfold rhS
  split
  · unfold uwS
    split
    · exact ⟨1, by omega, rfl⟩
    · exact ⟨0, by omega, rfl⟩
  · split
    · exact ⟨2, by omega, rfl⟩
    · split
      · exact ⟨3, by omega, rfl⟩
      · split
        · exact ⟨4, by omega, rfl⟩
        · exact ⟨3, by omega, rfl⟩
/-- how many lines back -/
def nh (c : CS) : Nat := (c.1 14).toNatClampNeg
theorem nh_eq {c : CS} {hs : Nat} (h : HD c.1 hs) : nh c = hs := by
  unfold nh
  rw [h.1]
  exact nI_clamp (by have := h.2; omega)
def ntS (c : CS) (x : Int32) : CS := (ntV c.1 c.2 (nh c) x, ntF c.2 (nh c) x)
theorem ntS_RA (c : CS) (x : Int32) : RA c (ntS c x) := by
  unfold ntS ntV ntF
  split <;> exact ⟨⟨rfl, rfl, rfl, rfl, rfl, rfl, rfl⟩, rfl, rfl, rfl⟩
theorem ntS_CI {S wd V kd : Nat} {c : CS} (h : CI S wd V kd c) (x : Int32) : CI S wd V kd (ntS c x) := by
  refine ⟨(ntS_RA c x).rc h.1, ?_, ?_, ?_⟩
  all_goals obtain ⟨-, ⟨z, hz⟩, h5, h10⟩ := h
  all_goals unfold ntS ntV ntF
  all_goals split
  all_goals first | exact ⟨z, hz⟩ | exact h5 | exact h10
theorem ntS_HD {c : CS} {hs : Nat} (h : HD c.1 hs) (x : Int32) : ∃ hs', HD (ntS c x).1 hs' := by
  have he := nh_eq h
  unfold ntS ntV
  rw [he]
  split
  · exact ⟨hs, h⟩
  · rename_i hn
    refine ⟨ntK c.2 hs x + 1, rfl, ?_⟩
    simp only [ntK, hn]
    split <;> omega
def bitI (p : Nat) : Int32 := (1 : Int32) <<< (nI p &&& 31)
theorem bitI_NB : ∀ {p : Nat}, p < 4 → NB (bitI p) := by
  intro p hp
  rcases (by omega : p = 0 ∨ p = 1 ∨ p = 2 ∨ p = 3) with rfl | rfl | rfl | rfl
  · exact ⟨1, by omega, by decide⟩
  · exact ⟨2, by omega, by decide⟩
  · exact ⟨4, by omega, by decide⟩
  · exact ⟨8, by omega, by decide⟩
/-- an access -/
def pf3 (S wd V kd : Nat) (c : CS) (x : Int32) (p : Nat) (wr : Int32) : CS := if wr = 0 then (rhS S wd V kd (ntS c x) x (bitI p) wr).1 else wpS S wd (rhS S wd V kd (ntS c x) x (bitI p) wr).1 x (bitI p)
def pfK (S wd V kd : Nat) (c : CS) (x : Int32) (p : Nat) (wr : Int32) : Int32 := (rhS S wd V kd (ntS c x) x (bitI p) wr).2
def pfS (S wd V kd : Nat) (c : CS) (x : Int32) (p : Nat) (wr : Int32) : CS :=
  (upd (pf3 S wd V kd c x p wr).1 2 ((pf3 S wd V kd c x p wr).1 2 + 1), up2 (pf3 S wd V kd c x p wr).2 20 (upd ((pf3 S wd V kd c x p wr).2 20) (pfK S wd V kd c x p wr).toNatClampNeg ((pf3 S wd V kd c x p wr).2 20 (pfK S wd V kd c x p wr).toNatClampNeg + 1)))
theorem pf3_CI {S wd V kd : Nat} {c : CS} (h : CI S wd V kd c) (x : Int32) {p : Nat} (hp : p < 4) (wr : Int32) : CI S wd V kd (pf3 S wd V kd c x p wr) := by
  unfold pf3
  split
  · exact rhS_CI (ntS_CI h x) _ _ _
  · exact wpS_CI (rhS_CI (ntS_CI h x) _ _ _) _ (bitI_NB hp)
theorem pfS_CI {S wd V kd : Nat} {c : CS} (h : CI S wd V kd c) (x : Int32) {p : Nat} (hp : p < 4) (wr : Int32) : CI S wd V kd (pfS S wd V kd c x p wr) := by
  have h1 := pf3_CI h x hp wr
  unfold pfS
  exact ⟨RA.rc (c := pf3 S wd V kd c x p wr) ⟨⟨rfl, rfl, rfl, rfl, rfl, rfl, rfl⟩, rfl, rfl, rfl⟩ h1.1, h1.2.1, h1.2.2.1, h1.2.2.2⟩
theorem pf3_KP (S wd V kd : Nat) (c : CS) (x : Int32) (p : Nat) (wr : Int32) : KP (ntS c x) (pf3 S wd V kd c x p wr) := by
  unfold pf3
  split
  · exact rhS_KP _ _ _ _ _ _ _ _
  · exact (rhS_KP _ _ _ _ _ _ _ _).tr (wpS_KP _ _ _ _ _)
/-- an access leaves the asks alone -/
theorem pfS_asks (S wd V kd : Nat) (c : CS) (x : Int32) (p : Nat) (wr : Int32) : (∀ k, (k < 2 ∨ 11 ≤ k ∧ k ≤ 13) → (pfS S wd V kd c x p wr).1 k = c.1 k) ∧ ∀ k, (k = 6 ∨ 12 ≤ k ∧ k ≤ 16) → (pfS S wd V kd c x p wr).2 k = c.2 k := by
  have h := pf3_KP S wd V kd c x p wr
  constructor
  · intro k hk
    show upd (pf3 S wd V kd c x p wr).1 2 _ k = _
    rw [pk_un (by omega), h.1 k (by omega) (by omega) (by omega) (by omega) (by omega)]
    unfold ntS ntV
    split
    · rfl
    · simp only [pk_un (show k ≠ 14 by omega), pk_un (show k ≠ 15 by omega)]
  · intro k hk
    show up2 (pf3 S wd V kd c x p wr).2 20 _ k = _
    rw [up2_n _ (by omega), h.2 k (by omega) (by omega)]
    show ntF c.2 (nh c) x k = _
    unfold ntF
    rw [up2_n _ (show k ≠ 18 by omega)]
    cases hfd c.2 (nh c) x with
    | some i => exact up2_n _ (by omega)
    | none => rfl
theorem pfS_HD {c : CS} {hs : Nat} (h : HD c.1 hs) (S wd V kd : Nat) (x : Int32) (p : Nat) (wr : Int32) : ∃ hs', HD (pfS S wd V kd c x p wr).1 hs' := by
  obtain ⟨hs', h1, h2⟩ := ntS_HD h x
  refine ⟨hs', ?_, h2⟩
  unfold pfS
  dsimp only
  rw [pk_un (by omega), (pf3_KP S wd V kd c x p wr).1 14 (by omega) (by omega) (by omega) (by omega) (by omega)]
  exact h1
