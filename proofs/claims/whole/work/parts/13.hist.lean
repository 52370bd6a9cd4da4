/-! HISTORY -/
theorem ey_Hist_find : eY y_Hist_find 1 = true := by decide +kernel
theorem d_Hist_find_0 : decode c_Hist_find 0 = .ok (.iconst 0, 1) := by decide +kernel
theorem d_Hist_find_1 : decode c_Hist_find 1 = .ok (.istore_n 2, 1) := by decide +kernel
theorem d_Hist_find_2 : decode c_Hist_find 2 = .ok (.iload_n 2, 1) := by decide +kernel
theorem d_Hist_find_3 : decode c_Hist_find 3 = .ok (.aload_n 0, 1) := by decide +kernel
theorem d_Hist_find_4 : decode c_Hist_find 4 = .ok (.getfield 18, 3) := by decide +kernel
theorem d_Hist_find_7 : decode c_Hist_find 7 = .ok (.if_icmp .ge 21, 3) := by decide +kernel
theorem d_Hist_find_10 : decode c_Hist_find 10 = .ok (.aload_n 0, 1) := by decide +kernel
theorem d_Hist_find_11 : decode c_Hist_find 11 = .ok (.getfield 11, 3) := by decide +kernel
theorem d_Hist_find_14 : decode c_Hist_find 14 = .ok (.iload_n 2, 1) := by decide +kernel
theorem d_Hist_find_15 : decode c_Hist_find 15 = .ok (.iaload, 1) := by decide +kernel
theorem d_Hist_find_16 : decode c_Hist_find 16 = .ok (.iload_n 1, 1) := by decide +kernel
theorem d_Hist_find_17 : decode c_Hist_find 17 = .ok (.if_icmp .ne 5, 3) := by decide +kernel
theorem d_Hist_find_20 : decode c_Hist_find 20 = .ok (.iload_n 2, 1) := by decide +kernel
theorem d_Hist_find_21 : decode c_Hist_find 21 = .ok (.ireturn, 1) := by decide +kernel
theorem d_Hist_find_22 : decode c_Hist_find 22 = .ok (.iinc 2 1, 3) := by decide +kernel
theorem d_Hist_find_25 : decode c_Hist_find 25 = .ok (.goto (-23), 3) := by decide +kernel
theorem d_Hist_find_28 : decode c_Hist_find 28 = .ok (.iconst (-1), 1) := by decide +kernel
theorem d_Hist_find_29 : decode c_Hist_find 29 = .ok (.ireturn, 1) := by decide +kernel
theorem ey_Hist_note : eY y_Hist_note 1 = true := by decide +kernel
theorem d_Hist_note_0 : decode c_Hist_note 0 = .ok (.aload_n 0, 1) := by decide +kernel
theorem d_Hist_note_1 : decode c_Hist_note 1 = .ok (.iload_n 1, 1) := by decide +kernel
theorem d_Hist_note_2 : decode c_Hist_note 2 = .ok (.invokevirtual 22, 3) := by decide +kernel
theorem d_Hist_note_5 : decode c_Hist_note 5 = .ok (.istore_n 2, 1) := by decide +kernel
theorem d_Hist_note_6 : decode c_Hist_note 6 = .ok (.iload_n 2, 1) := by decide +kernel
theorem d_Hist_note_7 : decode c_Hist_note 7 = .ok (.iconst (-1), 1) := by decide +kernel
theorem d_Hist_note_8 : decode c_Hist_note 8 = .ok (.if_icmp .eq 16, 3) := by decide +kernel
theorem d_Hist_note_11 : decode c_Hist_note 11 = .ok (.aload_n 0, 1) := by decide +kernel
theorem d_Hist_note_12 : decode c_Hist_note 12 = .ok (.getfield 15, 3) := by decide +kernel
theorem d_Hist_note_15 : decode c_Hist_note 15 = .ok (.iload_n 2, 1) := by decide +kernel
theorem d_Hist_note_16 : decode c_Hist_note 16 = .ok (.dup2, 1) := by decide +kernel
theorem d_Hist_note_17 : decode c_Hist_note 17 = .ok (.iaload, 1) := by decide +kernel
theorem d_Hist_note_18 : decode c_Hist_note 18 = .ok (.iconst 1, 1) := by decide +kernel
theorem d_Hist_note_19 : decode c_Hist_note 19 = .ok (.iadd, 1) := by decide +kernel
theorem d_Hist_note_20 : decode c_Hist_note 20 = .ok (.iastore, 1) := by decide +kernel
theorem d_Hist_note_21 : decode c_Hist_note 21 = .ok (.goto 39, 3) := by decide +kernel
theorem d_Hist_note_24 : decode c_Hist_note 24 = .ok (.aload_n 0, 1) := by decide +kernel
theorem d_Hist_note_25 : decode c_Hist_note 25 = .ok (.dup, 1) := by decide +kernel
theorem d_Hist_note_26 : decode c_Hist_note 26 = .ok (.getfield 26, 3) := by decide +kernel
theorem d_Hist_note_29 : decode c_Hist_note 29 = .ok (.iconst 1, 1) := by decide +kernel
theorem d_Hist_note_30 : decode c_Hist_note 30 = .ok (.iadd, 1) := by decide +kernel
theorem d_Hist_note_31 : decode c_Hist_note 31 = .ok (.putfield 26, 3) := by decide +kernel
theorem d_Hist_note_34 : decode c_Hist_note 34 = .ok (.aload_n 0, 1) := by decide +kernel
theorem d_Hist_note_35 : decode c_Hist_note 35 = .ok (.getfield 18, 3) := by decide +kernel
theorem d_Hist_note_38 : decode c_Hist_note 38 = .ok (.bipush 64, 2) := by decide +kernel
theorem d_Hist_note_40 : decode c_Hist_note 40 = .ok (.if_icmp .ge 10, 3) := by decide +kernel
theorem d_Hist_note_43 : decode c_Hist_note 43 = .ok (.aload_n 0, 1) := by decide +kernel
theorem d_Hist_note_44 : decode c_Hist_note 44 = .ok (.getfield 18, 3) := by decide +kernel
theorem d_Hist_note_47 : decode c_Hist_note 47 = .ok (.goto 5, 3) := by decide +kernel
theorem d_Hist_note_50 : decode c_Hist_note 50 = .ok (.bipush 63, 2) := by decide +kernel
theorem d_Hist_note_52 : decode c_Hist_note 52 = .ok (.istore_n 2, 1) := by decide +kernel
theorem d_Hist_note_53 : decode c_Hist_note 53 = .ok (.aload_n 0, 1) := by decide +kernel
theorem d_Hist_note_54 : decode c_Hist_note 54 = .ok (.iload_n 2, 1) := by decide +kernel
theorem d_Hist_note_55 : decode c_Hist_note 55 = .ok (.iconst 1, 1) := by decide +kernel
theorem d_Hist_note_56 : decode c_Hist_note 56 = .ok (.iadd, 1) := by decide +kernel
theorem d_Hist_note_57 : decode c_Hist_note 57 = .ok (.putfield 18, 3) := by decide +kernel
theorem d_Hist_note_60 : decode c_Hist_note 60 = .ok (.iload_n 2, 1) := by decide +kernel
theorem d_Hist_note_61 : decode c_Hist_note 61 = .ok (.istore_n 3, 1) := by decide +kernel
theorem d_Hist_note_62 : decode c_Hist_note 62 = .ok (.iload_n 3, 1) := by decide +kernel
theorem d_Hist_note_63 : decode c_Hist_note 63 = .ok (.ifCond .le 23, 3) := by decide +kernel
theorem d_Hist_note_66 : decode c_Hist_note 66 = .ok (.aload_n 0, 1) := by decide +kernel
theorem d_Hist_note_67 : decode c_Hist_note 67 = .ok (.getfield 11, 3) := by decide +kernel
theorem d_Hist_note_70 : decode c_Hist_note 70 = .ok (.iload_n 3, 1) := by decide +kernel
theorem d_Hist_note_71 : decode c_Hist_note 71 = .ok (.aload_n 0, 1) := by decide +kernel
theorem d_Hist_note_72 : decode c_Hist_note 72 = .ok (.getfield 11, 3) := by decide +kernel
theorem d_Hist_note_75 : decode c_Hist_note 75 = .ok (.iload_n 3, 1) := by decide +kernel
theorem d_Hist_note_76 : decode c_Hist_note 76 = .ok (.iconst 1, 1) := by decide +kernel
theorem d_Hist_note_77 : decode c_Hist_note 77 = .ok (.isub, 1) := by decide +kernel
theorem d_Hist_note_78 : decode c_Hist_note 78 = .ok (.iaload, 1) := by decide +kernel
theorem d_Hist_note_79 : decode c_Hist_note 79 = .ok (.iastore, 1) := by decide +kernel
theorem d_Hist_note_80 : decode c_Hist_note 80 = .ok (.iinc 3 (-1), 3) := by decide +kernel
theorem d_Hist_note_83 : decode c_Hist_note 83 = .ok (.goto (-21), 3) := by decide +kernel
theorem d_Hist_note_86 : decode c_Hist_note 86 = .ok (.aload_n 0, 1) := by decide +kernel
theorem d_Hist_note_87 : decode c_Hist_note 87 = .ok (.getfield 11, 3) := by decide +kernel
theorem d_Hist_note_90 : decode c_Hist_note 90 = .ok (.iconst 0, 1) := by decide +kernel
theorem d_Hist_note_91 : decode c_Hist_note 91 = .ok (.iload_n 1, 1) := by decide +kernel
theorem d_Hist_note_92 : decode c_Hist_note 92 = .ok (.iastore, 1) := by decide +kernel
theorem d_Hist_note_93 : decode c_Hist_note 93 = .ok (.return_, 1) := by decide +kernel
theorem ey_Hist_countFrom : eY y_Hist_countFrom 1 = true := by decide +kernel
theorem d_Hist_countFrom_0 : decode c_Hist_countFrom 0 = .ok (.aload_n 0, 1) := by decide +kernel
theorem d_Hist_countFrom_1 : decode c_Hist_countFrom 1 = .ok (.getfield 26, 3) := by decide +kernel
theorem d_Hist_countFrom_4 : decode c_Hist_countFrom 4 = .ok (.istore_n 2, 1) := by decide +kernel
theorem d_Hist_countFrom_5 : decode c_Hist_countFrom 5 = .ok (.iload_n 1, 1) := by decide +kernel
theorem d_Hist_countFrom_6 : decode c_Hist_countFrom 6 = .ok (.istore_n 3, 1) := by decide +kernel
theorem d_Hist_countFrom_7 : decode c_Hist_countFrom 7 = .ok (.iload_n 3, 1) := by decide +kernel
theorem d_Hist_countFrom_8 : decode c_Hist_countFrom 8 = .ok (.bipush 64, 2) := by decide +kernel
theorem d_Hist_countFrom_10 : decode c_Hist_countFrom 10 = .ok (.if_icmp .ge 18, 3) := by decide +kernel
theorem d_Hist_countFrom_13 : decode c_Hist_countFrom 13 = .ok (.iload_n 2, 1) := by decide +kernel
theorem d_Hist_countFrom_14 : decode c_Hist_countFrom 14 = .ok (.aload_n 0, 1) := by decide +kernel
theorem d_Hist_countFrom_15 : decode c_Hist_countFrom 15 = .ok (.getfield 15, 3) := by decide +kernel
theorem d_Hist_countFrom_18 : decode c_Hist_countFrom 18 = .ok (.iload_n 3, 1) := by decide +kernel
theorem d_Hist_countFrom_19 : decode c_Hist_countFrom 19 = .ok (.iaload, 1) := by decide +kernel
theorem d_Hist_countFrom_20 : decode c_Hist_countFrom 20 = .ok (.iadd, 1) := by decide +kernel
theorem d_Hist_countFrom_21 : decode c_Hist_countFrom 21 = .ok (.istore_n 2, 1) := by decide +kernel
theorem d_Hist_countFrom_22 : decode c_Hist_countFrom 22 = .ok (.iinc 3 1, 3) := by decide +kernel
theorem d_Hist_countFrom_25 : decode c_Hist_countFrom 25 = .ok (.goto (-18), 3) := by decide +kernel
theorem d_Hist_countFrom_28 : decode c_Hist_countFrom 28 = .ok (.iload_n 2, 1) := by decide +kernel
theorem d_Hist_countFrom_29 : decode c_Hist_countFrom 29 = .ok (.ireturn, 1) := by decide +kernel
/-- hs lines back -/
def HD (v : Nat → Int32) (hs : Nat) : Prop := v 14 = nI hs ∧ hs ≤ 64
/-- where the line lies -/
def hfd (f : Nat → Nat → Int32) (hs : Nat) (x : Int32) : Option Nat := fst1 (fun k => f 18 k == x) 0 hs
section HistRows
variable {l : Launch} {G : EG} {a : Nat → Nat} {v : Nat → Int32} {f : Nat → Nat → Int32} {n V hs : Nat} {wr : va_W}
set_option maxRecDepth 100000 in
theorem k_Hist_find (h : HD v hs) (x : Int32) : Con l G y_Hist_find c_Hist_find 3 (some .int) (rz 0 0) [.ref (a 17), .int x] (cF G a v f n V wr) (DI (oI (hfd f hs x)) (cF G a v f n V wr)) := by
  refine Con.of rfl rfl (fun X C E hR hl hn => ?_)
  obtain ⟨h14, hz⟩ := h
  unfold hfd at E
  refine e_iconst C d_Hist_find_0 (v := 0) (by decide) ?_
  refine e_istore_n C d_Hist_find_1 rfl ?_
  have L : ∀ m k : Nat, k + m = hs → fst1 (fun k => f 18 k == x) k m = fst1 (fun k => f 18 k == x) 0 hs → EW X G 3 0 0 2 [(0, .ref (a 17)), (1, .int x), (2, .int (nI k))] [] (cF G a v f n V wr) := by
    intro m
    induction m with
    | zero =>
      intro k hk hf
      refine e_iload_n C d_Hist_find_2 rfl ?_
      refine e_aload_n C d_Hist_find_3 rfl ?_
      refine e_get C 17 (k := 2) in_Hist g253 d_Hist_find_4 rfl rfl rfl rfl ?_
      refine e_top h14 ?_
      refine e_icmp_ge C d_Hist_find_7 (tgt := 28) (by decide) (fun h7 => ?_) (fun h7 => ?_)
      · skip
        refine e_iconst C d_Hist_find_28 (v := (-1)) (by decide) ?_
        exact e_iret C E d_Hist_find_29 (Nat.le_refl _) (Nat.le_refl _) rfl ⟨by rw [← hf]; rfl, rfl⟩
      · exact absurd (nI_le (by omega) (by omega)) h7
    | succ m ih =>
      intro k hk hf
      refine e_iload_n C d_Hist_find_2 rfl ?_
      refine e_aload_n C d_Hist_find_3 rfl ?_
      refine e_get C 17 (k := 2) in_Hist g253 d_Hist_find_4 rfl rfl rfl rfl ?_
      refine e_top h14 ?_
      refine e_icmp_ge C d_Hist_find_7 (tgt := 28) (by decide) (fun h7 => ?_) (fun h7 => ?_)
      · exact absurd h7 (nI_ge (by omega) (by omega))
      · skip
        refine e_aload_n C d_Hist_find_10 rfl ?_
        refine e_get C 17 (k := 0) in_Hist g251 d_Hist_find_11 rfl rfl rfl rfl ?_
        refine e_iload_n C d_Hist_find_14 rfl ?_
        refine e_iald C 18 0 d_Hist_find_15 rfl rfl k rfl (by omega) (by omega) ?_
        refine e_iload_n C d_Hist_find_16 rfl ?_
        refine e_icmp_ne C d_Hist_find_17 (tgt := 22) (by decide) (fun h17 => ?_) (fun h17 => ?_)
        · skip
          refine e_iinc C d_Hist_find_22 rfl (nI_1 k) rfl ?_
          refine e_goto C d_Hist_find_25 (tgt := 2) (by decide) ?_
          exact e_lv2 (ih (k + 1) (by omega) (by rw [← hf]; simp [fst1, h17])) rfl
        · skip
          refine e_iload_n C d_Hist_find_20 rfl ?_
          exact e_iret C E d_Hist_find_21 (Nat.le_refl _) (Nat.le_refl _) rfl ⟨by rw [← hf]; simp [fst1, h17, oI], rfl⟩
  exact e_lv2 (L hs 0 (by omega) rfl) rfl
/-- from where the lines move -/
def ntK (f : Nat → Nat → Int32) (hs : Nat) (x : Int32) : Nat := match hfd f hs x with
  | some k => k
  | none => if hs < 64 then hs else 63
def ntV (v : Nat → Int32) (f : Nat → Nat → Int32) (hs : Nat) (x : Int32) : Nat → Int32 := match hfd f hs x with
  | some _ => v
  | none => upd (upd v 15 (v 15 + 1)) 14 (nI (ntK f hs x + 1))
def ntF (f : Nat → Nat → Int32) (hs : Nat) (x : Int32) : Nat → Nat → Int32 := up2 (match hfd f hs x with
  | some k => up2 f 19 (upd (f 19) k (f 19 k + 1))
  | none => f) 18 (upd (shu (f 18) 0 (ntK f hs x)) 0 x)
theorem oI_n1 {o : Option Nat} (h : ∀ k, o = some k → k < 2 ^ 31) : oI o = -1 ↔ o = none := by
  cases o with
  | none => simp [oI]
  | some k =>
    simp only [oI, reduceCtorEq, iff_false]
    intro e
    have := nI_pos (h k rfl)
    rw [e] at this
    exact this (by decide)
set_option maxRecDepth 100000 in
theorem note_loop {X : EX} {cA : Nat} {v : Nat → Int32} {B : Option Value → va_W → Prop} (C : EC X G "CacheRules$History" c_Hist_note 4) (E : ER X G 0 0 B none) (x : Int32) (y2 : Int32) (k0 : Nat) (hk0 : k0 < 64) (hB : B none (cF G a v (up2 f 18 (upd (shu (f 18) 0 k0) 0 x)) n V wr)) :
    ∀ k : Nat, k ≤ k0 → EW X G 4 0 0 62 [(0, .ref (a 17)), (1, .int x), (2, .int y2), (3, .int (nI k))] [] (cF G a v (up2 f 18 (shu (f 18) k k0)) n V wr) := by
  intro k
  induction k with
  | zero =>
    intro hk
    refine e_iload_n C d_Hist_note_62 rfl ?_
    refine e_if_le C d_Hist_note_63 (tgt := 86) (by decide) (fun h63 => ?_) (fun h63 => ?_)
    · skip
      refine e_aload_n C d_Hist_note_86 rfl ?_
      refine e_get C 17 (k := 0) in_Hist g251 d_Hist_note_87 rfl rfl rfl rfl ?_
      refine e_iconst C d_Hist_note_90 (v := 0) (by decide) ?_
      refine e_iload_n C d_Hist_note_91 rfl ?_
      refine e_iast C 18 0 d_Hist_note_92 rfl rfl 0 rfl (by omega) (by omega) ?_
      exact e_vret C E d_Hist_note_93 (Nat.le_refl _) (Nat.le_refl _) hB
    · exact absurd (by decide) h63
  | succ k ih =>
    intro hk
    refine e_iload_n C d_Hist_note_62 rfl ?_
    refine e_if_le C d_Hist_note_63 (tgt := 86) (by decide) (fun h63 => ?_) (fun h63 => ?_)
    · exact absurd h63 (nI_nle (by omega) (by omega))
    · skip
      refine e_aload_n C d_Hist_note_66 rfl ?_
      refine e_get C 17 (k := 0) in_Hist g251 d_Hist_note_67 rfl rfl rfl rfl ?_
      refine e_iload_n C d_Hist_note_70 rfl ?_
      refine e_aload_n C d_Hist_note_71 rfl ?_
      refine e_get C 17 (k := 0) in_Hist g251 d_Hist_note_72 rfl rfl rfl rfl ?_
      refine e_iload_n C d_Hist_note_75 rfl ?_
      refine e_iconst C d_Hist_note_76 (v := 1) (by decide) ?_
      refine e_isub C d_Hist_note_77 ?_
      refine e_iald C 18 0 d_Hist_note_78 rfl rfl k (nI_pred k) (by omega) (by omega) ?_
      refine e_iast C 18 0 d_Hist_note_79 rfl rfl (k + 1) rfl (by omega) (by omega) ?_
      refine e_eq (ws' := cF G a v (up2 f 18 (shu (f 18) k k0)) n V wr) (by simp only [shu_s hk]; rfl) ?_
      refine e_iinc C d_Hist_note_80 rfl (pk_m1 k) rfl ?_
      refine e_goto C d_Hist_note_83 (tgt := 62) (by decide) ?_
      exact e_lv2 (ih (by omega)) rfl
set_option maxRecDepth 100000 in
theorem k_Hist_note (h : HD v hs) (x : Int32) : Con l G y_Hist_note c_Hist_note 4 none (rz 1 22) [.ref (a 17), .int x] (cF G a v f n V wr) (DV (cF G a (ntV v f hs x) (ntF f hs x) n V wr)) := by
  refine Con.of rfl rfl (fun X C E hR hl hn => ?_)
  have h0 := h
  obtain ⟨h14, hz⟩ := h
  have hb : ∀ k, hfd f hs x = some k → k < 2 ^ 31 := fun k hk => by have := fst1_some hk; omega
  refine e_aload_n C d_Hist_note_0 rfl ?_
  refine e_iload_n C d_Hist_note_1 rfl ?_
  refine e_cVi C hR 17 (k_Hist_find h0 x) g364 g13 g460 g362 g363 d_Hist_note_2 rfl ey_Hist_find rfl rfl rfl rfl ⟨Nat.zero_le _, Nat.zero_le _⟩ ?_
  refine e_istore_n C d_Hist_note_5 rfl ?_
  refine e_iload_n C d_Hist_note_6 rfl ?_
  refine e_iconst C d_Hist_note_7 (v := (-1)) (by decide) ?_
  refine e_icmp_eq C d_Hist_note_8 (tgt := 24) (by decide) (fun h8 => ?_) (fun h8 => ?_)
  · rw [oI_n1 hb] at h8
    have eK : ntK f hs x = if hs < 64 then hs else 63 := by simp [ntK, h8]
    have eV : ntV v f hs x = upd (upd v 15 (v 15 + 1)) 14 (nI (ntK f hs x + 1)) := by simp [ntV, h8]
    have eF : ntF f hs x = up2 f 18 (upd (shu (f 18) 0 (ntK f hs x)) 0 x) := by simp [ntF, h8]
    rw [eV, eF] at E
    generalize ntK f hs x = K at eK E
    refine e_aload_n C d_Hist_note_24 rfl ?_
    refine e_dup C d_Hist_note_25 rfl ?_
    refine e_get C 17 (k := 3) in_Hist g254 d_Hist_note_26 rfl rfl rfl rfl ?_
    refine e_iconst C d_Hist_note_29 (v := 1) (by decide) ?_
    refine e_iadd C d_Hist_note_30 ?_
    refine e_put C 17 (k := 3) in_Hist tk_Hist nm_Hist g254 d_Hist_note_31 rfl rfl rfl rfl rfl rfl rfl rfl ?_
    refine e_aload_n C d_Hist_note_34 rfl ?_
    refine e_get C 17 (k := 2) in_Hist g253 d_Hist_note_35 rfl rfl rfl rfl ?_
    refine e_top (show _ = nI hs from h14) ?_
    refine e_bipush C d_Hist_note_38 (v := nI 64) (by decide) ?_
    refine e_icmp_ge C d_Hist_note_40 (tgt := 50) (by decide) (fun h40 => ?_) (fun h40 => ?_)
    · rw [nI_leI (by omega) (by omega)] at h40
      obtain rfl : K = 63 := by rw [eK, if_neg (by omega)]
      refine e_bipush C d_Hist_note_50 (v := nI 63) (by decide) ?_
      refine e_istore_n C d_Hist_note_52 rfl ?_
      refine e_aload_n C d_Hist_note_53 rfl ?_
      refine e_iload_n C d_Hist_note_54 rfl ?_
      refine e_iconst C d_Hist_note_55 (v := 1) (by decide) ?_
      refine e_iadd C d_Hist_note_56 ?_
      refine e_top (y := nI (63 + 1)) (nI_1 _) ?_
      refine e_put C 17 (k := 2) in_Hist tk_Hist nm_Hist g253 d_Hist_note_57 rfl rfl rfl rfl rfl rfl rfl rfl ?_
      refine e_iload_n C d_Hist_note_60 rfl ?_
      refine e_istore_n C d_Hist_note_61 rfl ?_
      refine e_eq (ws' := cF G a (upd (upd v 15 (v 15 + 1)) 14 (nI (63 + 1))) (up2 f 18 (shu (f 18) 63 63)) n V wr) (by simp only [shu_0]; rfl) ?_
      exact e_lv2 (note_loop (cA := 0) C E x _ 63 (by omega) ⟨rfl, rfl⟩ 63 (Nat.le_refl _)) rfl
    · rw [nI_leI (by omega) (by omega)] at h40
      obtain rfl : K = hs := by rw [eK, if_pos (by omega)]
      refine e_aload_n C d_Hist_note_43 rfl ?_
      refine e_get C 17 (k := 2) in_Hist g253 d_Hist_note_44 rfl rfl rfl rfl ?_
      refine e_top (show _ = nI K from h14) ?_
      refine e_goto C d_Hist_note_47 (tgt := 52) (by decide) ?_
      refine e_istore_n C d_Hist_note_52 rfl ?_
      refine e_aload_n C d_Hist_note_53 rfl ?_
      refine e_iload_n C d_Hist_note_54 rfl ?_
      refine e_iconst C d_Hist_note_55 (v := 1) (by decide) ?_
      refine e_iadd C d_Hist_note_56 ?_
      refine e_top (y := nI (K + 1)) (nI_1 _) ?_
      refine e_put C 17 (k := 2) in_Hist tk_Hist nm_Hist g253 d_Hist_note_57 rfl rfl rfl rfl rfl rfl rfl rfl ?_
      refine e_iload_n C d_Hist_note_60 rfl ?_
      refine e_istore_n C d_Hist_note_61 rfl ?_
      refine e_eq (ws' := cF G a (upd (upd v 15 (v 15 + 1)) 14 (nI (K + 1))) (up2 f 18 (shu (f 18) K K)) n V wr) (by simp only [shu_0]; rfl) ?_
      exact e_lv2 (note_loop (cA := 0) C E x _ K (by omega) ⟨rfl, rfl⟩ K (Nat.le_refl _)) rfl
  · rw [oI_n1 hb] at h8
    obtain ⟨K, hK⟩ := Option.ne_none_iff_exists'.mp h8
    have hK2 := fst1_some hK
    have eV : ntV v f hs x = v := by simp [ntV, hK]
    have eF : ntF f hs x = up2 (up2 f 19 (upd (f 19) K (f 19 K + 1))) 18 (upd (shu (f 18) 0 K) 0 x) := by simp [ntF, ntK, hK]
    rw [eV, eF] at E
    rw [hK]
    refine e_aload_n C d_Hist_note_11 rfl ?_
    refine e_get C 17 (k := 1) in_Hist g252 d_Hist_note_12 rfl rfl rfl rfl ?_
    refine e_iload_n C d_Hist_note_15 rfl ?_
    refine e_dup2 C d_Hist_note_16 rfl rfl ?_
    refine e_iald C 19 0 d_Hist_note_17 rfl rfl K rfl (by omega) (by omega) ?_
    refine e_iconst C d_Hist_note_18 (v := 1) (by decide) ?_
    refine e_iadd C d_Hist_note_19 ?_
    refine e_iast C 19 0 d_Hist_note_20 rfl rfl K rfl (by omega) (by omega) ?_
    refine e_goto C d_Hist_note_21 (tgt := 60) (by decide) ?_
    refine e_iload_n C d_Hist_note_60 rfl ?_
    refine e_istore_n C d_Hist_note_61 rfl ?_
    refine e_eq (ws' := cF G a v (up2 (up2 f 19 (upd (f 19) K (f 19 K + 1))) 18 (shu (f 18) K K)) n V wr) (by simp only [shu_0]; rfl) ?_
    exact e_lv2 (note_loop (cA := 0) (f := up2 f 19 (upd (f 19) K (f 19 K + 1))) C E x _ K (by omega) ⟨rfl, rfl⟩ K (Nat.le_refl _)) rfl
set_option maxRecDepth 100000 in
theorem k_Hist_countFrom {j : Nat} (hj : j ≤ 64) : Con l G y_Hist_countFrom c_Hist_countFrom 4 (some .int) (rz 0 0) [.ref (a 17), .int (nI j)] (cF G a v f n V wr) (DI (accF (f 19) (v 15) j (64 - j)) (cF G a v f n V wr)) := by
  refine Con.of rfl rfl (fun X C E hR hl hn => ?_)
  refine e_aload_n C d_Hist_countFrom_0 rfl ?_
  refine e_get C 17 (k := 3) in_Hist g254 d_Hist_countFrom_1 rfl rfl rfl rfl ?_
  refine e_istore_n C d_Hist_countFrom_4 rfl ?_
  refine e_iload_n C d_Hist_countFrom_5 rfl ?_
  refine e_istore_n C d_Hist_countFrom_6 rfl ?_
  have L : ∀ (m k : Nat) (y : Int32), k + m = 64 → accF (f 19) y k m = accF (f 19) (v 15) j (64 - j) → EW X G 4 0 0 7 [(0, .ref (a 17)), (1, .int (nI j)), (2, .int y), (3, .int (nI k))] [] (cF G a v f n V wr) := by
    intro m
    induction m with
    | zero =>
      intro k y hk hf
      refine e_iload_n C d_Hist_countFrom_7 rfl ?_
      refine e_bipush C d_Hist_countFrom_8 (v := nI 64) (by decide) ?_
      refine e_icmp_ge C d_Hist_countFrom_10 (tgt := 28) (by decide) (fun h10 => ?_) (fun h10 => ?_)
      · skip
        refine e_iload_n C d_Hist_countFrom_28 rfl ?_
        exact e_iret C E d_Hist_countFrom_29 (Nat.le_refl _) (Nat.le_refl _) rfl ⟨by rw [← hf]; rfl, rfl⟩
      · exact absurd (nI_le (by omega) (by omega)) h10
    | succ m ih =>
      intro k y hk hf
      refine e_iload_n C d_Hist_countFrom_7 rfl ?_
      refine e_bipush C d_Hist_countFrom_8 (v := nI 64) (by decide) ?_
      refine e_icmp_ge C d_Hist_countFrom_10 (tgt := 28) (by decide) (fun h10 => ?_) (fun h10 => ?_)
      · exact absurd h10 (nI_ge (by omega) (by omega))
      · skip
        refine e_iload_n C d_Hist_countFrom_13 rfl ?_
        refine e_aload_n C d_Hist_countFrom_14 rfl ?_
        refine e_get C 17 (k := 1) in_Hist g252 d_Hist_countFrom_15 rfl rfl rfl rfl ?_
        refine e_iload_n C d_Hist_countFrom_18 rfl ?_
        refine e_iald C 19 0 d_Hist_countFrom_19 rfl rfl k rfl (by omega) (by omega) ?_
        refine e_iadd C d_Hist_countFrom_20 ?_
        refine e_istore_n C d_Hist_countFrom_21 rfl ?_
        refine e_iinc C d_Hist_countFrom_22 rfl (nI_1 k) rfl ?_
        refine e_goto C d_Hist_countFrom_25 (tgt := 7) (by decide) ?_
        exact e_lv2 (ih (k + 1) _ (by omega) hf) rfl
  exact e_lv2 (L (64 - j) j _ (by omega) rfl) rfl
end HistRows
