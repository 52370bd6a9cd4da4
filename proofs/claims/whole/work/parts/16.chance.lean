/-! RULE 3 -/
theorem ey_Chance_use : eY y_Chance_use 2 = true := by decide +kernel
theorem d_Chance_use_0 : decode c_Chance_use 0 = .ok (.return_, 1) := by decide +kernel
theorem ey_Chance_come : eY y_Chance_come 2 = true := by decide +kernel
theorem d_Chance_come_0 : decode c_Chance_come 0 = .ok (.return_, 1) := by decide +kernel
theorem ey_Chance_choose : eY y_Chance_choose 2 = true := by decide +kernel
theorem d_Chance_choose_0 : decode c_Chance_choose 0 = .ok (.iconst 0, 1) := by decide +kernel
theorem d_Chance_choose_1 : decode c_Chance_choose 1 = .ok (.istore_n 3, 1) := by decide +kernel
theorem d_Chance_choose_2 : decode c_Chance_choose 2 = .ok (.iconst 0, 1) := by decide +kernel
theorem d_Chance_choose_3 : decode c_Chance_choose 3 = .ok (.istore 4, 2) := by decide +kernel
theorem d_Chance_choose_5 : decode c_Chance_choose 5 = .ok (.iload 4, 2) := by decide +kernel
theorem d_Chance_choose_7 : decode c_Chance_choose 7 = .ok (.aload_n 0, 1) := by decide +kernel
theorem d_Chance_choose_8 : decode c_Chance_choose 8 = .ok (.getfield 15, 3) := by decide +kernel
theorem d_Chance_choose_11 : decode c_Chance_choose 11 = .ok (.if_icmp .ge 31, 3) := by decide +kernel
theorem d_Chance_choose_14 : decode c_Chance_choose 14 = .ok (.iload_n 3, 1) := by decide +kernel
theorem d_Chance_choose_15 : decode c_Chance_choose 15 = .ok (.aload_n 2, 1) := by decide +kernel
theorem d_Chance_choose_16 : decode c_Chance_choose 16 = .ok (.iload_n 1, 1) := by decide +kernel
theorem d_Chance_choose_17 : decode c_Chance_choose 17 = .ok (.aload_n 0, 1) := by decide +kernel
theorem d_Chance_choose_18 : decode c_Chance_choose 18 = .ok (.getfield 15, 3) := by decide +kernel
theorem d_Chance_choose_21 : decode c_Chance_choose 21 = .ok (.imul, 1) := by decide +kernel
theorem d_Chance_choose_22 : decode c_Chance_choose 22 = .ok (.iload 4, 2) := by decide +kernel
theorem d_Chance_choose_24 : decode c_Chance_choose 24 = .ok (.iadd, 1) := by decide +kernel
theorem d_Chance_choose_25 : decode c_Chance_choose 25 = .ok (.baload, 1) := by decide +kernel
theorem d_Chance_choose_26 : decode c_Chance_choose 26 = .ok (.ifCond .eq 7, 3) := by decide +kernel
theorem d_Chance_choose_29 : decode c_Chance_choose 29 = .ok (.iconst 0, 1) := by decide +kernel
theorem d_Chance_choose_30 : decode c_Chance_choose 30 = .ok (.goto 4, 3) := by decide +kernel
theorem d_Chance_choose_33 : decode c_Chance_choose 33 = .ok (.iconst 1, 1) := by decide +kernel
theorem d_Chance_choose_34 : decode c_Chance_choose 34 = .ok (.iadd, 1) := by decide +kernel
theorem d_Chance_choose_35 : decode c_Chance_choose 35 = .ok (.istore_n 3, 1) := by decide +kernel
theorem d_Chance_choose_36 : decode c_Chance_choose 36 = .ok (.iinc 4 1, 3) := by decide +kernel
theorem d_Chance_choose_39 : decode c_Chance_choose 39 = .ok (.goto (-34), 3) := by decide +kernel
theorem d_Chance_choose_42 : decode c_Chance_choose 42 = .ok (.iload_n 3, 1) := by decide +kernel
theorem d_Chance_choose_43 : decode c_Chance_choose 43 = .ok (.ifCond .ne 5, 3) := by decide +kernel
theorem d_Chance_choose_46 : decode c_Chance_choose 46 = .ok (.iconst (-1), 1) := by decide +kernel
theorem d_Chance_choose_47 : decode c_Chance_choose 47 = .ok (.ireturn, 1) := by decide +kernel
theorem d_Chance_choose_48 : decode c_Chance_choose 48 = .ok (.aload_n 0, 1) := by decide +kernel
theorem d_Chance_choose_49 : decode c_Chance_choose 49 = .ok (.getfield 9, 3) := by decide +kernel
theorem d_Chance_choose_52 : decode c_Chance_choose 52 = .ok (.ldc 18, 2) := by decide +kernel
theorem d_Chance_choose_54 : decode c_Chance_choose 54 = .ok (.idiv, 1) := by decide +kernel
theorem d_Chance_choose_55 : decode c_Chance_choose 55 = .ok (.iload_n 3, 1) := by decide +kernel
theorem d_Chance_choose_56 : decode c_Chance_choose 56 = .ok (.irem, 1) := by decide +kernel
theorem d_Chance_choose_57 : decode c_Chance_choose 57 = .ok (.istore 4, 2) := by decide +kernel
theorem d_Chance_choose_59 : decode c_Chance_choose 59 = .ok (.iconst 0, 1) := by decide +kernel
theorem d_Chance_choose_60 : decode c_Chance_choose 60 = .ok (.istore 5, 2) := by decide +kernel
theorem d_Chance_choose_62 : decode c_Chance_choose 62 = .ok (.iload 5, 2) := by decide +kernel
theorem d_Chance_choose_64 : decode c_Chance_choose 64 = .ok (.aload_n 0, 1) := by decide +kernel
theorem d_Chance_choose_65 : decode c_Chance_choose 65 = .ok (.getfield 15, 3) := by decide +kernel
theorem d_Chance_choose_68 : decode c_Chance_choose 68 = .ok (.if_icmp .ge 34, 3) := by decide +kernel
theorem d_Chance_choose_71 : decode c_Chance_choose 71 = .ok (.aload_n 2, 1) := by decide +kernel
theorem d_Chance_choose_72 : decode c_Chance_choose 72 = .ok (.iload_n 1, 1) := by decide +kernel
theorem d_Chance_choose_73 : decode c_Chance_choose 73 = .ok (.aload_n 0, 1) := by decide +kernel
theorem d_Chance_choose_74 : decode c_Chance_choose 74 = .ok (.getfield 15, 3) := by decide +kernel
theorem d_Chance_choose_77 : decode c_Chance_choose 77 = .ok (.imul, 1) := by decide +kernel
theorem d_Chance_choose_78 : decode c_Chance_choose 78 = .ok (.iload 5, 2) := by decide +kernel
theorem d_Chance_choose_80 : decode c_Chance_choose 80 = .ok (.iadd, 1) := by decide +kernel
theorem d_Chance_choose_81 : decode c_Chance_choose 81 = .ok (.baload, 1) := by decide +kernel
theorem d_Chance_choose_82 : decode c_Chance_choose 82 = .ok (.ifCond .ne 14, 3) := by decide +kernel
theorem d_Chance_choose_85 : decode c_Chance_choose 85 = .ok (.iload 4, 2) := by decide +kernel
theorem d_Chance_choose_87 : decode c_Chance_choose 87 = .ok (.ifCond .ne 6, 3) := by decide +kernel
theorem d_Chance_choose_90 : decode c_Chance_choose 90 = .ok (.iload 5, 2) := by decide +kernel
theorem d_Chance_choose_92 : decode c_Chance_choose 92 = .ok (.ireturn, 1) := by decide +kernel
theorem d_Chance_choose_93 : decode c_Chance_choose 93 = .ok (.iinc 4 (-1), 3) := by decide +kernel
theorem d_Chance_choose_96 : decode c_Chance_choose 96 = .ok (.iinc 5 1, 3) := by decide +kernel
theorem d_Chance_choose_99 : decode c_Chance_choose 99 = .ok (.goto (-37), 3) := by decide +kernel
theorem d_Chance_choose_102 : decode c_Chance_choose 102 = .ok (.iconst (-1), 1) := by decide +kernel
theorem d_Chance_choose_103 : decode c_Chance_choose 103 = .ok (.ireturn, 1) := by decide +kernel
theorem ey_Chance_settle : eY y_Chance_settle 3 = true := by decide +kernel
theorem d_Chance_settle_0 : decode c_Chance_settle 0 = .ok (.aload_n 0, 1) := by decide +kernel
theorem d_Chance_settle_1 : decode c_Chance_settle 1 = .ok (.ldc 19, 2) := by decide +kernel
theorem d_Chance_settle_3 : decode c_Chance_settle 3 = .ok (.aload_n 0, 1) := by decide +kernel
theorem d_Chance_settle_4 : decode c_Chance_settle 4 = .ok (.getfield 9, 3) := by decide +kernel
theorem d_Chance_settle_7 : decode c_Chance_settle 7 = .ok (.imul, 1) := by decide +kernel
theorem d_Chance_settle_8 : decode c_Chance_settle 8 = .ok (.sipush 12345, 3) := by decide +kernel
theorem d_Chance_settle_11 : decode c_Chance_settle 11 = .ok (.iadd, 1) := by decide +kernel
theorem d_Chance_settle_12 : decode c_Chance_settle 12 = .ok (.ldc 20, 2) := by decide +kernel
theorem d_Chance_settle_14 : decode c_Chance_settle 14 = .ok (.iand, 1) := by decide +kernel
theorem d_Chance_settle_15 : decode c_Chance_settle 15 = .ok (.putfield 9, 3) := by decide +kernel
theorem d_Chance_settle_18 : decode c_Chance_settle 18 = .ok (.return_, 1) := by decide +kernel
abbrev wC (G : EG) (a : Nat → Nat) (v : Nat → Int32) (f : Nat → Nat → Int32) (n V : Nat) : va_W := cF G a v f n V (rChance a v)
/-- how many are not barred -/
def cntU (lk : Nat → Bool) : Nat → Nat → Nat → Nat
  | c, _, 0 => c
  | c, k, m + 1 => cntU lk (if lk k then c else c + 1) (k + 1) m
/-- the one with that number among those that are not barred -/
def nthU (lk : Nat → Bool) : Nat → Nat → Nat → Option Nat
  | _, _, 0 => none
  | t, k, m + 1 => if lk k then nthU lk t (k + 1) m else if t = 0 then some k else nthU lk (t - 1) (k + 1) m
section ChanceRows
variable {l : Launch} {G : EG} {a : Nat → Nat} {v : Nat → Int32} {f : Nat → Nat → Int32} {V S wd s w : Nat}
theorem k_Chance_use (x y : Int32) : Con l G y_Chance_use c_Chance_use 3 none (rz 0 0) [.ref (a 21), .int x, .int y] (wC G a v f (S * wd) V) (DV (wC G a v f (S * wd) V)) := by
  refine Con.of rfl rfl (fun X C E hR hl hn => ?_)
  exact e_vret C E d_Chance_use_0 (Nat.le_refl _) (Nat.le_refl _) ⟨rfl, rfl⟩
theorem k_Chance_come (x y : Int32) : Con l G y_Chance_come c_Chance_come 3 none (rz 0 0) [.ref (a 21), .int x, .int y] (wC G a v f (S * wd) V) (DV (wC G a v f (S * wd) V)) := by
  refine Con.of rfl rfl (fun X C E hR hl hn => ?_)
  exact e_vret C E d_Chance_come_0 (Nat.le_refl _) (Nat.le_refl _) ⟨rfl, rfl⟩
theorem k_Chance_settle (x y : Int32) : Con l G y_Chance_settle c_Chance_settle 4 none (rz 0 0) [.ref (a 21), .int x, .int y, .ref (a 6)] (wC G a v f (S * wd) V) (DV (wC G a (upd v 19 ((1103515245 * v 19 + 12345) &&& 2147483647)) f (S * wd) V)) := by
  refine Con.of rfl rfl (fun X C E hR hl hn => ?_)
  refine e_aload_n C d_Chance_settle_0 rfl ?_
  refine e_ldc C g559 d_Chance_settle_1 ?_
  refine e_aload_n C d_Chance_settle_3 rfl ?_
  refine e_get C 21 (k := 1) in_Chance g114 d_Chance_settle_4 rfl rfl rfl rfl ?_
  refine e_imul C d_Chance_settle_7 ?_
  refine e_sipush C d_Chance_settle_8 (v := 12345) (by decide) ?_
  refine e_iadd C d_Chance_settle_11 ?_
  refine e_ldc C g560 d_Chance_settle_12 ?_
  refine e_iand C d_Chance_settle_14 ?_
  refine e_put C 21 (k := 1) in_Chance tk_Chance nm_Chance g114 d_Chance_settle_15 rfl rfl rfl rfl rfl rfl rfl rfl ?_
  exact e_vret C E d_Chance_settle_18 (Nat.le_refl _) (Nat.le_refl _) ⟨rfl, rfl⟩
/-- the choice -/
def chC (f : Nat → Nat → Int32) (wd s x : Nat) : Option Nat := if cntU (lkd f wd s) 0 0 wd = 0 then none else nthU (lkd f wd s) (x / 65536 % cntU (lkd f wd s) 0 0 wd) 0 wd
set_option maxRecDepth 100000 in
theorem k_Chance_choose (h : CD v S wd) (hs : s < S) {x : Nat} (hx : x < 2 ^ 31) (h19 : v 19 = nI x) : Con l G y_Chance_choose c_Chance_choose 6 (some .int) (rz 0 0) [.ref (a 21), .int (nI s), .ref (a 6)] (wC G a v f (S * wd) V) (DI (oI (chC f wd s x)) (wC G a v f (S * wd) V)) := by
  refine Con.of rfl rfl (fun X C E hR hl hn => ?_)
  have hn1 := h.n128
  have hw8 := h.2.2.2.2
  refine e_iconst C d_Chance_choose_0 (v := 0) (by decide) ?_
  refine e_istore_n C d_Chance_choose_1 rfl ?_
  refine e_iconst C d_Chance_choose_2 (v := 0) (by decide) ?_
  refine e_istore C d_Chance_choose_3 rfl ?_
  have L : ∀ (m k c : Nat), k + m = wd → c ≤ k → cntU (lkd f wd s) c k m = cntU (lkd f wd s) 0 0 wd → EW X G 6 0 0 5 [(0, .ref (a 21)), (1, .int (nI s)), (2, .ref (a 6)), (3, .int (nI c)), (4, .int (nI k))] [] (wC G a v f (S * wd) V) := by
    intro m
    induction m with
    | zero =>
      intro k c hk hck hf
      have hf : c = cntU (lkd f wd s) 0 0 wd := hf
      refine e_iload C d_Chance_choose_5 rfl ?_
      refine e_aload_n C d_Chance_choose_7 rfl ?_
      refine e_getI C 21 (k := 0) in_Chance g124 g125 d_Chance_choose_8 rfl rfl rfl rfl ?_
      refine e_top h.2.1 ?_
      refine e_icmp_ge C d_Chance_choose_11 (tgt := 42) (by decide) (fun h11 => ?_) (fun h11 => ?_)
      · skip
        refine e_iload_n C d_Chance_choose_42 rfl ?_
        refine e_if_ne C d_Chance_choose_43 (tgt := 48) (by decide) (fun h43 => ?_) (fun h43 => ?_)
        · have hc0 : ¬ c = 0 := fun z => h43 (by rw [z]; rfl)
          rw [show chC f wd s x = nthU (lkd f wd s) (x / 65536 % c) 0 wd by simp only [chC, ← hf, if_neg hc0]] at E
          refine e_aload_n C d_Chance_choose_48 rfl ?_
          refine e_get C 21 (k := 1) in_Chance g114 d_Chance_choose_49 rfl rfl rfl rfl ?_
          refine e_top h19 ?_
          refine e_ldc C g524 d_Chance_choose_52 ?_
          refine e_top (y := nI 65536) rfl ?_
          refine e_idiv C d_Chance_choose_54 (nI_ne0 (by omega) (by omega)) ?_
          refine e_top (pk_div hx (by omega) (by omega)) ?_
          refine e_iload_n C d_Chance_choose_55 rfl ?_
          refine e_irem C d_Chance_choose_56 (nI_ne0 (by omega) (by omega)) ?_
          refine e_top (pk_rem (by omega) (by omega) (by omega)) ?_
          refine e_istore C d_Chance_choose_57 rfl ?_
          refine e_iconst C d_Chance_choose_59 (v := 0) (by decide) ?_
          refine e_istore C d_Chance_choose_60 rfl ?_
          generalize ht0 : x / 65536 % c = t0 at E ⊢
          have ht0c : t0 < c := by rw [← ht0]; exact Nat.mod_lt _ (by omega)
          have L2 : ∀ (m k t : Nat), k + m = wd → t ≤ 8 → nthU (lkd f wd s) t k m = nthU (lkd f wd s) t0 0 wd → EW X G 6 0 0 62 [(0, .ref (a 21)), (1, .int (nI s)), (2, .ref (a 6)), (4, .int (nI t)), (5, .int (nI k))] [] (wC G a v f (S * wd) V) := by
            intro m
            induction m with
            | zero =>
              intro k t hk ht hf
              refine e_iload C d_Chance_choose_62 rfl ?_
              refine e_aload_n C d_Chance_choose_64 rfl ?_
              refine e_getI C 21 (k := 0) in_Chance g124 g125 d_Chance_choose_65 rfl rfl rfl rfl ?_
              refine e_top h.2.1 ?_
              refine e_icmp_ge C d_Chance_choose_68 (tgt := 102) (by decide) (fun h68 => ?_) (fun h68 => ?_)
              · skip
                refine e_iconst C d_Chance_choose_102 (v := (-1)) (by decide) ?_
                exact e_iret C E d_Chance_choose_103 (Nat.le_refl _) (Nat.le_refl _) rfl ⟨by rw [← hf]; rfl, rfl⟩
              · exact absurd (nI_le (by omega) (by omega)) h68
            | succ m ih =>
              intro k t hk ht hf
              have hlt := slot_lt (w := k) hs (show k < wd by omega)
              refine e_iload C d_Chance_choose_62 rfl ?_
              refine e_aload_n C d_Chance_choose_64 rfl ?_
              refine e_getI C 21 (k := 0) in_Chance g124 g125 d_Chance_choose_65 rfl rfl rfl rfl ?_
              refine e_top h.2.1 ?_
              refine e_icmp_ge C d_Chance_choose_68 (tgt := 102) (by decide) (fun h68 => ?_) (fun h68 => ?_)
              · exact absurd h68 (nI_ge (by omega) (by omega))
              · skip
                refine e_aload_n C d_Chance_choose_71 rfl ?_
                refine e_iload_n C d_Chance_choose_72 rfl ?_
                refine e_aload_n C d_Chance_choose_73 rfl ?_
                refine e_getI C 21 (k := 0) in_Chance g124 g125 d_Chance_choose_74 rfl rfl rfl rfl ?_
                refine e_imul C d_Chance_choose_77 ?_
                refine e_iload C d_Chance_choose_78 rfl ?_
                refine e_iadd C d_Chance_choose_80 ?_
                refine e_zald C 6 1 d_Chance_choose_81 rfl rfl (s * wd + k) (by rw [h.2.1, pk_mul, nI_add]) hlt (by omega) ?_
                refine e_if_ne C d_Chance_choose_82 (tgt := 96) (by decide) (fun h82 => ?_) (fun h82 => ?_)
                · have hh : lkd f wd s k = true := by simp [lkd]; exact h82
                  refine e_iinc C d_Chance_choose_96 rfl (nI_1 k) rfl ?_
                  refine e_goto C d_Chance_choose_99 (tgt := 62) (by decide) ?_
                  exact e_lv2 (ih (k + 1) t (by omega) ht (by rw [← hf]; simp [nthU, hh])) rfl
                · have hh : lkd f wd s k = false := by simp [lkd]; exact h82
                  refine e_iload C d_Chance_choose_85 rfl ?_
                  refine e_if_ne C d_Chance_choose_87 (tgt := 93) (by decide) (fun h87 => ?_) (fun h87 => ?_)
                  · cases t with
                    | zero => exact absurd rfl h87
                    | succ t =>
                      refine e_iinc C d_Chance_choose_93 rfl (pk_m1 t) rfl ?_
                      refine e_iinc C d_Chance_choose_96 rfl (nI_1 k) rfl ?_
                      refine e_goto C d_Chance_choose_99 (tgt := 62) (by decide) ?_
                      exact e_lv2 (ih (k + 1) t (by omega) (by omega) (by rw [← hf]; simp [nthU, hh])) rfl
                  · have : t = 0 := by
                      rcases Nat.eq_zero_or_pos t with z | z
                      · exact z
                      · exact absurd h87 (nI_ne0 z (by omega))
                    subst this
                    refine e_iload C d_Chance_choose_90 rfl ?_
                    exact e_iret C E d_Chance_choose_92 (Nat.le_refl _) (Nat.le_refl _) rfl ⟨by rw [← hf]; simp [nthU, hh, oI], rfl⟩
          exact e_lv2 (L2 wd 0 t0 (by omega) (by omega) rfl) rfl
        · have hc0 : c = 0 := by
            rcases Nat.eq_zero_or_pos c with z | z
            · exact z
            · exact absurd h43 (nI_ne0 z (by omega))
          refine e_iconst C d_Chance_choose_46 (v := (-1)) (by decide) ?_
          exact e_iret C E d_Chance_choose_47 (Nat.le_refl _) (Nat.le_refl _) rfl ⟨by simp only [chC, ← hf, hc0, if_true]; rfl, rfl⟩
      · exact absurd (nI_le (by omega) (by omega)) h11
    | succ m ih =>
      intro k c hk hck hf
      have hlt := slot_lt (w := k) hs (show k < wd by omega)
      refine e_iload C d_Chance_choose_5 rfl ?_
      refine e_aload_n C d_Chance_choose_7 rfl ?_
      refine e_getI C 21 (k := 0) in_Chance g124 g125 d_Chance_choose_8 rfl rfl rfl rfl ?_
      refine e_top h.2.1 ?_
      refine e_icmp_ge C d_Chance_choose_11 (tgt := 42) (by decide) (fun h11 => ?_) (fun h11 => ?_)
      · exact absurd h11 (nI_ge (by omega) (by omega))
      · skip
        refine e_iload_n C d_Chance_choose_14 rfl ?_
        refine e_aload_n C d_Chance_choose_15 rfl ?_
        refine e_iload_n C d_Chance_choose_16 rfl ?_
        refine e_aload_n C d_Chance_choose_17 rfl ?_
        refine e_getI C 21 (k := 0) in_Chance g124 g125 d_Chance_choose_18 rfl rfl rfl rfl ?_
        refine e_imul C d_Chance_choose_21 ?_
        refine e_iload C d_Chance_choose_22 rfl ?_
        refine e_iadd C d_Chance_choose_24 ?_
        refine e_zald C 6 1 d_Chance_choose_25 rfl rfl (s * wd + k) (by rw [h.2.1, pk_mul, nI_add]) hlt (by omega) ?_
        refine e_if_eq C d_Chance_choose_26 (tgt := 33) (by decide) (fun h26 => ?_) (fun h26 => ?_)
        · have hh : lkd f wd s k = false := by simp [lkd]; exact h26
          refine e_iconst C d_Chance_choose_33 (v := 1) (by decide) ?_
          refine e_iadd C d_Chance_choose_34 ?_
          refine e_top (nI_1 c) ?_
          refine e_istore_n C d_Chance_choose_35 rfl ?_
          refine e_iinc C d_Chance_choose_36 rfl (nI_1 k) rfl ?_
          refine e_goto C d_Chance_choose_39 (tgt := 5) (by decide) ?_
          exact e_lv2 (ih (k + 1) (c + 1) (by omega) (by omega) (by rw [← hf]; simp [cntU, hh])) rfl
        · have hh : lkd f wd s k = true := by simp [lkd]; exact h26
          refine e_iconst C d_Chance_choose_29 (v := 0) (by decide) ?_
          refine e_goto C d_Chance_choose_30 (tgt := 34) (by decide) ?_
          refine e_iadd C d_Chance_choose_34 ?_
          refine e_top (y := nI c) (by rw [show (0 : Int32) = nI 0 from rfl, nI_add]; rfl) ?_
          refine e_istore_n C d_Chance_choose_35 rfl ?_
          refine e_iinc C d_Chance_choose_36 rfl (nI_1 k) rfl ?_
          refine e_goto C d_Chance_choose_39 (tgt := 5) (by decide) ?_
          exact e_lv2 (ih (k + 1) c (by omega) (by omega) (by rw [← hf]; simp [cntU, hh])) rfl
  exact e_lv2 (L wd 0 0 (by omega) (Nat.le_refl _) rfl) rfl
end ChanceRows
