/-! RULE 6 -/
theorem ey_Tree_pointAway : eY y_Tree_pointAway 2 = true := by decide +kernel
theorem d_Tree_pointAway_0 : decode c_Tree_pointAway 0 = .ok (.aload_n 0, 1) := by decide +kernel
theorem d_Tree_pointAway_1 : decode c_Tree_pointAway 1 = .ok (.getfield 9, 3) := by decide +kernel
theorem d_Tree_pointAway_4 : decode c_Tree_pointAway 4 = .ok (.iload_n 2, 1) := by decide +kernel
theorem d_Tree_pointAway_5 : decode c_Tree_pointAway 5 = .ok (.iadd, 1) := by decide +kernel
theorem d_Tree_pointAway_6 : decode c_Tree_pointAway 6 = .ok (.istore_n 3, 1) := by decide +kernel
theorem d_Tree_pointAway_7 : decode c_Tree_pointAway 7 = .ok (.iload_n 3, 1) := by decide +kernel
theorem d_Tree_pointAway_8 : decode c_Tree_pointAway 8 = .ok (.iconst 1, 1) := by decide +kernel
theorem d_Tree_pointAway_9 : decode c_Tree_pointAway 9 = .ok (.if_icmp .le 64, 3) := by decide +kernel
theorem d_Tree_pointAway_12 : decode c_Tree_pointAway 12 = .ok (.iconst 1, 1) := by decide +kernel
theorem d_Tree_pointAway_13 : decode c_Tree_pointAway 13 = .ok (.iload_n 3, 1) := by decide +kernel
theorem d_Tree_pointAway_14 : decode c_Tree_pointAway 14 = .ok (.iconst 2, 1) := by decide +kernel
theorem d_Tree_pointAway_15 : decode c_Tree_pointAway 15 = .ok (.idiv, 1) := by decide +kernel
theorem d_Tree_pointAway_16 : decode c_Tree_pointAway 16 = .ok (.ishl, 1) := by decide +kernel
theorem d_Tree_pointAway_17 : decode c_Tree_pointAway 17 = .ok (.istore 4, 2) := by decide +kernel
theorem d_Tree_pointAway_19 : decode c_Tree_pointAway 19 = .ok (.iload_n 3, 1) := by decide +kernel
theorem d_Tree_pointAway_20 : decode c_Tree_pointAway 20 = .ok (.iconst 2, 1) := by decide +kernel
theorem d_Tree_pointAway_21 : decode c_Tree_pointAway 21 = .ok (.irem, 1) := by decide +kernel
theorem d_Tree_pointAway_22 : decode c_Tree_pointAway 22 = .ok (.ifCond .ne 7, 3) := by decide +kernel
theorem d_Tree_pointAway_25 : decode c_Tree_pointAway 25 = .ok (.iconst 1, 1) := by decide +kernel
theorem d_Tree_pointAway_26 : decode c_Tree_pointAway 26 = .ok (.goto 4, 3) := by decide +kernel
theorem d_Tree_pointAway_29 : decode c_Tree_pointAway 29 = .ok (.iconst 0, 1) := by decide +kernel
theorem d_Tree_pointAway_30 : decode c_Tree_pointAway 30 = .ok (.istore 5, 2) := by decide +kernel
theorem d_Tree_pointAway_32 : decode c_Tree_pointAway 32 = .ok (.aload_n 0, 1) := by decide +kernel
theorem d_Tree_pointAway_33 : decode c_Tree_pointAway 33 = .ok (.getfield 15, 3) := by decide +kernel
theorem d_Tree_pointAway_36 : decode c_Tree_pointAway 36 = .ok (.iload_n 1, 1) := by decide +kernel
theorem d_Tree_pointAway_37 : decode c_Tree_pointAway 37 = .ok (.iload 5, 2) := by decide +kernel
theorem d_Tree_pointAway_39 : decode c_Tree_pointAway 39 = .ok (.ifCond .eq 15, 3) := by decide +kernel
theorem d_Tree_pointAway_42 : decode c_Tree_pointAway 42 = .ok (.aload_n 0, 1) := by decide +kernel
theorem d_Tree_pointAway_43 : decode c_Tree_pointAway 43 = .ok (.getfield 15, 3) := by decide +kernel
theorem d_Tree_pointAway_46 : decode c_Tree_pointAway 46 = .ok (.iload_n 1, 1) := by decide +kernel
theorem d_Tree_pointAway_47 : decode c_Tree_pointAway 47 = .ok (.iaload, 1) := by decide +kernel
theorem d_Tree_pointAway_48 : decode c_Tree_pointAway 48 = .ok (.iload 4, 2) := by decide +kernel
theorem d_Tree_pointAway_50 : decode c_Tree_pointAway 50 = .ok (.ior, 1) := by decide +kernel
theorem d_Tree_pointAway_51 : decode c_Tree_pointAway 51 = .ok (.goto 14, 3) := by decide +kernel
theorem d_Tree_pointAway_54 : decode c_Tree_pointAway 54 = .ok (.aload_n 0, 1) := by decide +kernel
theorem d_Tree_pointAway_55 : decode c_Tree_pointAway 55 = .ok (.getfield 15, 3) := by decide +kernel
theorem d_Tree_pointAway_58 : decode c_Tree_pointAway 58 = .ok (.iload_n 1, 1) := by decide +kernel
theorem d_Tree_pointAway_59 : decode c_Tree_pointAway 59 = .ok (.iaload, 1) := by decide +kernel
theorem d_Tree_pointAway_60 : decode c_Tree_pointAway 60 = .ok (.iload 4, 2) := by decide +kernel
theorem d_Tree_pointAway_62 : decode c_Tree_pointAway 62 = .ok (.iconst (-1), 1) := by decide +kernel
theorem d_Tree_pointAway_63 : decode c_Tree_pointAway 63 = .ok (.ixor, 1) := by decide +kernel
theorem d_Tree_pointAway_64 : decode c_Tree_pointAway 64 = .ok (.iand, 1) := by decide +kernel
theorem d_Tree_pointAway_65 : decode c_Tree_pointAway 65 = .ok (.iastore, 1) := by decide +kernel
theorem d_Tree_pointAway_66 : decode c_Tree_pointAway 66 = .ok (.iload_n 3, 1) := by decide +kernel
theorem d_Tree_pointAway_67 : decode c_Tree_pointAway 67 = .ok (.iconst 2, 1) := by decide +kernel
theorem d_Tree_pointAway_68 : decode c_Tree_pointAway 68 = .ok (.idiv, 1) := by decide +kernel
theorem d_Tree_pointAway_69 : decode c_Tree_pointAway 69 = .ok (.istore_n 3, 1) := by decide +kernel
theorem d_Tree_pointAway_70 : decode c_Tree_pointAway 70 = .ok (.goto (-63), 3) := by decide +kernel
theorem d_Tree_pointAway_73 : decode c_Tree_pointAway 73 = .ok (.return_, 1) := by decide +kernel
theorem ey_Tree_use : eY y_Tree_use 2 = true := by decide +kernel
theorem d_Tree_use_0 : decode c_Tree_use 0 = .ok (.aload_n 0, 1) := by decide +kernel
theorem d_Tree_use_1 : decode c_Tree_use 1 = .ok (.iload_n 1, 1) := by decide +kernel
theorem d_Tree_use_2 : decode c_Tree_use 2 = .ok (.iload_n 2, 1) := by decide +kernel
theorem d_Tree_use_3 : decode c_Tree_use 3 = .ok (.invokevirtual 19, 3) := by decide +kernel
theorem d_Tree_use_6 : decode c_Tree_use 6 = .ok (.return_, 1) := by decide +kernel
theorem ey_Tree_come : eY y_Tree_come 2 = true := by decide +kernel
theorem d_Tree_come_0 : decode c_Tree_come 0 = .ok (.aload_n 0, 1) := by decide +kernel
theorem d_Tree_come_1 : decode c_Tree_come 1 = .ok (.iload_n 1, 1) := by decide +kernel
theorem d_Tree_come_2 : decode c_Tree_come 2 = .ok (.iload_n 2, 1) := by decide +kernel
theorem d_Tree_come_3 : decode c_Tree_come 3 = .ok (.invokevirtual 19, 3) := by decide +kernel
theorem d_Tree_come_6 : decode c_Tree_come 6 = .ok (.return_, 1) := by decide +kernel
theorem ey_Tree_choose : eY y_Tree_choose 2 = true := by decide +kernel
theorem d_Tree_choose_0 : decode c_Tree_choose 0 = .ok (.iconst 1, 1) := by decide +kernel
theorem d_Tree_choose_1 : decode c_Tree_choose 1 = .ok (.istore_n 3, 1) := by decide +kernel
theorem d_Tree_choose_2 : decode c_Tree_choose 2 = .ok (.iload_n 3, 1) := by decide +kernel
theorem d_Tree_choose_3 : decode c_Tree_choose 3 = .ok (.aload_n 0, 1) := by decide +kernel
theorem d_Tree_choose_4 : decode c_Tree_choose 4 = .ok (.getfield 9, 3) := by decide +kernel
theorem d_Tree_choose_7 : decode c_Tree_choose 7 = .ok (.if_icmp .ge 21, 3) := by decide +kernel
theorem d_Tree_choose_10 : decode c_Tree_choose 10 = .ok (.iconst 2, 1) := by decide +kernel
theorem d_Tree_choose_11 : decode c_Tree_choose 11 = .ok (.iload_n 3, 1) := by decide +kernel
theorem d_Tree_choose_12 : decode c_Tree_choose 12 = .ok (.imul, 1) := by decide +kernel
theorem d_Tree_choose_13 : decode c_Tree_choose 13 = .ok (.aload_n 0, 1) := by decide +kernel
theorem d_Tree_choose_14 : decode c_Tree_choose 14 = .ok (.getfield 15, 3) := by decide +kernel
theorem d_Tree_choose_17 : decode c_Tree_choose 17 = .ok (.iload_n 1, 1) := by decide +kernel
theorem d_Tree_choose_18 : decode c_Tree_choose 18 = .ok (.iaload, 1) := by decide +kernel
theorem d_Tree_choose_19 : decode c_Tree_choose 19 = .ok (.iload_n 3, 1) := by decide +kernel
theorem d_Tree_choose_20 : decode c_Tree_choose 20 = .ok (.ishr, 1) := by decide +kernel
theorem d_Tree_choose_21 : decode c_Tree_choose 21 = .ok (.iconst 1, 1) := by decide +kernel
theorem d_Tree_choose_22 : decode c_Tree_choose 22 = .ok (.iand, 1) := by decide +kernel
theorem d_Tree_choose_23 : decode c_Tree_choose 23 = .ok (.iadd, 1) := by decide +kernel
theorem d_Tree_choose_24 : decode c_Tree_choose 24 = .ok (.istore_n 3, 1) := by decide +kernel
theorem d_Tree_choose_25 : decode c_Tree_choose 25 = .ok (.goto (-23), 3) := by decide +kernel
theorem d_Tree_choose_28 : decode c_Tree_choose 28 = .ok (.iconst 0, 1) := by decide +kernel
theorem d_Tree_choose_29 : decode c_Tree_choose 29 = .ok (.istore 4, 2) := by decide +kernel
theorem d_Tree_choose_31 : decode c_Tree_choose 31 = .ok (.iload 4, 2) := by decide +kernel
theorem d_Tree_choose_33 : decode c_Tree_choose 33 = .ok (.aload_n 0, 1) := by decide +kernel
theorem d_Tree_choose_34 : decode c_Tree_choose 34 = .ok (.getfield 9, 3) := by decide +kernel
theorem d_Tree_choose_37 : decode c_Tree_choose 37 = .ok (.if_icmp .ge 48, 3) := by decide +kernel
theorem d_Tree_choose_40 : decode c_Tree_choose 40 = .ok (.iload_n 3, 1) := by decide +kernel
theorem d_Tree_choose_41 : decode c_Tree_choose 41 = .ok (.iload 4, 2) := by decide +kernel
theorem d_Tree_choose_43 : decode c_Tree_choose 43 = .ok (.iadd, 1) := by decide +kernel
theorem d_Tree_choose_44 : decode c_Tree_choose 44 = .ok (.aload_n 0, 1) := by decide +kernel
theorem d_Tree_choose_45 : decode c_Tree_choose 45 = .ok (.getfield 9, 3) := by decide +kernel
theorem d_Tree_choose_48 : decode c_Tree_choose 48 = .ok (.iconst 1, 1) := by decide +kernel
theorem d_Tree_choose_49 : decode c_Tree_choose 49 = .ok (.isub, 1) := by decide +kernel
theorem d_Tree_choose_50 : decode c_Tree_choose 50 = .ok (.iand, 1) := by decide +kernel
theorem d_Tree_choose_51 : decode c_Tree_choose 51 = .ok (.istore 5, 2) := by decide +kernel
theorem d_Tree_choose_53 : decode c_Tree_choose 53 = .ok (.iload 5, 2) := by decide +kernel
theorem d_Tree_choose_55 : decode c_Tree_choose 55 = .ok (.aload_n 0, 1) := by decide +kernel
theorem d_Tree_choose_56 : decode c_Tree_choose 56 = .ok (.getfield 23, 3) := by decide +kernel
theorem d_Tree_choose_59 : decode c_Tree_choose 59 = .ok (.if_icmp .ge 20, 3) := by decide +kernel
theorem d_Tree_choose_62 : decode c_Tree_choose 62 = .ok (.aload_n 2, 1) := by decide +kernel
theorem d_Tree_choose_63 : decode c_Tree_choose 63 = .ok (.iload_n 1, 1) := by decide +kernel
theorem d_Tree_choose_64 : decode c_Tree_choose 64 = .ok (.aload_n 0, 1) := by decide +kernel
theorem d_Tree_choose_65 : decode c_Tree_choose 65 = .ok (.getfield 23, 3) := by decide +kernel
theorem d_Tree_choose_68 : decode c_Tree_choose 68 = .ok (.imul, 1) := by decide +kernel
theorem d_Tree_choose_69 : decode c_Tree_choose 69 = .ok (.iload 5, 2) := by decide +kernel
theorem d_Tree_choose_71 : decode c_Tree_choose 71 = .ok (.iadd, 1) := by decide +kernel
theorem d_Tree_choose_72 : decode c_Tree_choose 72 = .ok (.baload, 1) := by decide +kernel
theorem d_Tree_choose_73 : decode c_Tree_choose 73 = .ok (.ifCond .ne 6, 3) := by decide +kernel
theorem d_Tree_choose_76 : decode c_Tree_choose 76 = .ok (.iload 5, 2) := by decide +kernel
theorem d_Tree_choose_78 : decode c_Tree_choose 78 = .ok (.ireturn, 1) := by decide +kernel
theorem d_Tree_choose_79 : decode c_Tree_choose 79 = .ok (.iinc 4 1, 3) := by decide +kernel
theorem d_Tree_choose_82 : decode c_Tree_choose 82 = .ok (.goto (-51), 3) := by decide +kernel
theorem d_Tree_choose_85 : decode c_Tree_choose 85 = .ok (.iconst (-1), 1) := by decide +kernel
theorem d_Tree_choose_86 : decode c_Tree_choose 86 = .ok (.ireturn, 1) := by decide +kernel
theorem ey_Tree_settle : eY y_Tree_settle 3 = true := by decide +kernel
theorem d_Tree_settle_0 : decode c_Tree_settle 0 = .ok (.return_, 1) := by decide +kernel
abbrev wE (G : EG) (a : Nat → Nat) (v : Nat → Int32) (f : Nat → Nat → Int32) (n S V : Nat) : va_W := cF G a v f n V (rTree G a v f S)
/-- the leaves of the tree -/
def TD (v : Nat → Int32) (P wd : Nat) : Prop := v 16 = nI P ∧ (∃ k, k ≤ 3 ∧ P = 2 ^ k) ∧ wd ≤ P
theorem TD.P8 {v : Nat → Int32} {P wd : Nat} (h : TD v P wd) : 1 ≤ P ∧ P ≤ 8 := by
  obtain ⟨-, ⟨k, hk, rfl⟩, -⟩ := h
  rcases (by omega : k = 0 ∨ k = 1 ∨ k = 2 ∨ k = 3) with rfl | rfl | rfl | rfl <;> decide
/-- the bit of the node above is set, or taken away -/
def trB (t : Int32) (node : Nat) : Int32 := if node % 2 = 0 then t ||| ((1 : Int32) <<< (nI (node / 2) &&& 31)) else t &&& (((1 : Int32) <<< (nI (node / 2) &&& 31)) ^^^ (-1))
/-- all bits above a node point away -/
def ptA : Nat → Nat → Int32 → Int32
  | 0, _, t => t
  | m + 1, node, t => if node ≤ 1 then t else ptA m (node / 2) (trB t node)
def bitN (t : Int32) (node : Nat) : Nat := (t >>> (nI node &&& 31)).toBitVec.toNat % 2
/-- where the bits point -/
def trC (t : Int32) (P : Nat) : Nat → Nat → Nat
  | 0, node => node
  | m + 1, node => if node < P then trC t P m (2 * node + bitN t node) else node
/-- the choice -/
def trP (f : Nat → Nat → Int32) (wd s P : Nat) : Option Nat := (fst1 (fun k => decide ((trC (f 22 s) P 4 1 + k) % P < wd) && !lkd f wd s ((trC (f 22 s) P 4 1 + k) % P)) 0 P).map (fun k => (trC (f 22 s) P 4 1 + k) % P)
section TreeRows
variable {l : Launch} {G : EG} {a : Nat → Nat} {v : Nat → Int32} {f : Nat → Nat → Int32} {V S wd s w P : Nat}
set_option maxRecDepth 100000 in
theorem k_Tree_pointAway (h : CD v S wd) (hT : TD v P wd) (hs : s < S) (hw : w < wd) : Con l G y_Tree_pointAway c_Tree_pointAway 6 none (rz 0 0) [.ref (a 21), .int (nI s), .int (nI w)] (wE G a v f (S * wd) S V) (DV (wE G a v (up2 f 22 (upd (f 22) s (ptA 4 (P + w) (f 22 s)))) (S * wd) S V)) := by
  refine Con.of rfl rfl (fun X C E hR hl hn => ?_)
  have hn1 := h.n128
  have hw8 := h.2.2.2.2
  have hP := hT.P8
  have hS := h.S16
  have hPw := hT.2.2
  refine e_aload_n C d_Tree_pointAway_0 rfl ?_
  refine e_get C 21 (k := 1) in_Tree g153 d_Tree_pointAway_1 rfl rfl rfl rfl ?_
  refine e_top hT.1 ?_
  refine e_iload_n C d_Tree_pointAway_4 rfl ?_
  refine e_iadd C d_Tree_pointAway_5 ?_
  refine e_top (nI_add _ _) ?_
  refine e_istore_n C d_Tree_pointAway_6 rfl ?_
  have L : ∀ (m node : Nat) (t : Int32), node < 2 ^ m → m ≤ 4 → ptA m node t = ptA 4 (P + w) (f 22 s) → EW X G 6 0 0 7 [(0, .ref (a 21)), (1, .int (nI s)), (3, .int (nI node))] [] (wE G a v (up2 f 22 (upd (f 22) s t)) (S * wd) S V) := by
    intro m
    induction m with
    | zero =>
      intro node t hnd hm hf
      have hf : t = _ := hf
      refine e_iload_n C d_Tree_pointAway_7 rfl ?_
      refine e_iconst C d_Tree_pointAway_8 (v := nI 1) (by decide) ?_
      refine e_icmp_le C d_Tree_pointAway_9 (tgt := 73) (by decide) (fun h9 => ?_) (fun h9 => ?_)
      · skip
        exact e_vret C E d_Tree_pointAway_73 (Nat.le_refl _) (Nat.le_refl _) ⟨rfl, by rw [← hf]⟩
      · rw [nI_leI (by omega) (by omega)] at h9
        omega
    | succ m ih =>
      intro node t hnd hm hf
      have h16 : 2 ^ (m + 1) ≤ 2 ^ 4 := Nat.pow_le_pow_right (by omega) hm
      have h2m : 2 ^ (m + 1) = 2 * 2 ^ m := by rw [Nat.pow_succ]; omega
      refine e_iload_n C d_Tree_pointAway_7 rfl ?_
      refine e_iconst C d_Tree_pointAway_8 (v := nI 1) (by decide) ?_
      refine e_icmp_le C d_Tree_pointAway_9 (tgt := 73) (by decide) (fun h9 => ?_) (fun h9 => ?_)
      · rw [nI_leI (by omega) (by omega)] at h9
        exact e_vret C E d_Tree_pointAway_73 (Nat.le_refl _) (Nat.le_refl _) ⟨rfl, by rw [← hf]; simp only [ptA, if_pos h9]⟩
      · rw [nI_leI (by omega) (by omega)] at h9
        have hf2 : ptA m (node / 2) (trB t node) = ptA 4 (P + w) (f 22 s) := by rw [← hf]; simp only [ptA, if_neg h9]
        have hus : upd (f 22) s t s = t := pk_us
        refine e_iconst C d_Tree_pointAway_12 (v := 1) (by decide) ?_
        refine e_iload_n C d_Tree_pointAway_13 rfl ?_
        refine e_iconst C d_Tree_pointAway_14 (v := nI 2) (by decide) ?_
        refine e_idiv C d_Tree_pointAway_15 (nI_ne0 (by omega) (by omega)) ?_
        refine e_top (pk_div (by omega) (by omega) (by omega)) ?_
        refine e_ishl C d_Tree_pointAway_16 ?_
        refine e_istore C d_Tree_pointAway_17 rfl ?_
        refine e_iload_n C d_Tree_pointAway_19 rfl ?_
        refine e_iconst C d_Tree_pointAway_20 (v := nI 2) (by decide) ?_
        refine e_irem C d_Tree_pointAway_21 (nI_ne0 (by omega) (by omega)) ?_
        refine e_top (pk_rem (by omega) (by omega) (by omega)) ?_
        refine e_if_ne C d_Tree_pointAway_22 (tgt := 29) (by decide) (fun h22 => ?_) (fun h22 => ?_)
        · have hpar : ¬ node % 2 = 0 := fun z => h22 (by rw [z]; rfl)
          rw [trB, if_neg hpar] at hf2
          refine e_iconst C d_Tree_pointAway_29 (v := 0) (by decide) ?_
          refine e_istore C d_Tree_pointAway_30 rfl ?_
          refine e_aload_n C d_Tree_pointAway_32 rfl ?_
          refine e_get C 21 (k := 2) in_Tree g154 d_Tree_pointAway_33 rfl rfl rfl rfl ?_
          refine e_iload_n C d_Tree_pointAway_36 rfl ?_
          refine e_iload C d_Tree_pointAway_37 rfl ?_
          refine e_if_eq C d_Tree_pointAway_39 (tgt := 54) (by decide) (fun h39 => ?_) (fun h39 => ?_)
          · skip
            refine e_aload_n C d_Tree_pointAway_54 rfl ?_
            refine e_get C 21 (k := 2) in_Tree g154 d_Tree_pointAway_55 rfl rfl rfl rfl ?_
            refine e_iload_n C d_Tree_pointAway_58 rfl ?_
            refine e_iald C 22 0 d_Tree_pointAway_59 rfl rfl s rfl hs (by omega) ?_
            refine e_top hus ?_
            refine e_iload C d_Tree_pointAway_60 rfl ?_
            refine e_iconst C d_Tree_pointAway_62 (v := (-1)) (by decide) ?_
            refine e_ixor C d_Tree_pointAway_63 ?_
            refine e_iand C d_Tree_pointAway_64 ?_
            refine e_iast C 22 0 d_Tree_pointAway_65 rfl rfl s rfl hs (by omega) ?_
            refine e_iload_n C d_Tree_pointAway_66 rfl ?_
            refine e_iconst C d_Tree_pointAway_67 (v := nI 2) (by decide) ?_
            refine e_idiv C d_Tree_pointAway_68 (nI_ne0 (by omega) (by omega)) ?_
            refine e_top (pk_div (by omega) (by omega) (by omega)) ?_
            refine e_istore_n C d_Tree_pointAway_69 rfl ?_
            refine e_goto C d_Tree_pointAway_70 (tgt := 7) (by decide) ?_
            refine e_eq (ws' := wE G a v (up2 f 22 (upd (f 22) s (t &&& (((1 : Int32) <<< (nI (node / 2) &&& 31)) ^^^ (-1))))) (S * wd) S V) (by rw [← upd_uu (f 22) s t (t &&& (((1 : Int32) <<< (nI (node / 2) &&& 31)) ^^^ (-1)))]; rfl) ?_
            exact e_lv2 (ih (node / 2) _ (by omega) (by omega) hf2) rfl
          · exact absurd rfl h39
        · have hpar : node % 2 = 0 := by
            rcases Nat.eq_zero_or_pos (node % 2) with z | z
            · exact z
            · exact absurd h22 (nI_ne0 z (by omega))
          rw [trB, if_pos hpar] at hf2
          refine e_iconst C d_Tree_pointAway_25 (v := 1) (by decide) ?_
          refine e_goto C d_Tree_pointAway_26 (tgt := 30) (by decide) ?_
          refine e_istore C d_Tree_pointAway_30 rfl ?_
          refine e_aload_n C d_Tree_pointAway_32 rfl ?_
          refine e_get C 21 (k := 2) in_Tree g154 d_Tree_pointAway_33 rfl rfl rfl rfl ?_
          refine e_iload_n C d_Tree_pointAway_36 rfl ?_
          refine e_iload C d_Tree_pointAway_37 rfl ?_
          refine e_if_eq C d_Tree_pointAway_39 (tgt := 54) (by decide) (fun h39 => ?_) (fun h39 => ?_)
          · exact absurd h39 (by decide)
          · skip
            refine e_aload_n C d_Tree_pointAway_42 rfl ?_
            refine e_get C 21 (k := 2) in_Tree g154 d_Tree_pointAway_43 rfl rfl rfl rfl ?_
            refine e_iload_n C d_Tree_pointAway_46 rfl ?_
            refine e_iald C 22 0 d_Tree_pointAway_47 rfl rfl s rfl hs (by omega) ?_
            refine e_top hus ?_
            refine e_iload C d_Tree_pointAway_48 rfl ?_
            refine e_ior C d_Tree_pointAway_50 ?_
            refine e_goto C d_Tree_pointAway_51 (tgt := 65) (by decide) ?_
            refine e_iast C 22 0 d_Tree_pointAway_65 rfl rfl s rfl hs (by omega) ?_
            refine e_iload_n C d_Tree_pointAway_66 rfl ?_
            refine e_iconst C d_Tree_pointAway_67 (v := nI 2) (by decide) ?_
            refine e_idiv C d_Tree_pointAway_68 (nI_ne0 (by omega) (by omega)) ?_
            refine e_top (pk_div (by omega) (by omega) (by omega)) ?_
            refine e_istore_n C d_Tree_pointAway_69 rfl ?_
            refine e_goto C d_Tree_pointAway_70 (tgt := 7) (by decide) ?_
            refine e_eq (ws' := wE G a v (up2 f 22 (upd (f 22) s (t ||| ((1 : Int32) <<< (nI (node / 2) &&& 31))))) (S * wd) S V) (by rw [← upd_uu (f 22) s t (t ||| ((1 : Int32) <<< (nI (node / 2) &&& 31)))]; rfl) ?_
            exact e_lv2 (ih (node / 2) _ (by omega) (by omega) hf2) rfl
  refine e_eq (ws' := wE G a v (up2 f 22 (upd (f 22) s (f 22 s))) (S * wd) S V) (by rw [show upd (f 22) s (f 22 s) = f 22 by funext j; by_cases hj : j = s <;> simp [upd, hj]]; rfl) ?_
  exact e_lv2 (L 4 (P + w) (f 22 s) (by omega) (Nat.le_refl _) rfl) rfl
theorem k_Tree_use (h : CD v S wd) (hT : TD v P wd) (hs : s < S) (hw : w < wd) : Con l G y_Tree_use c_Tree_use 3 none (rz 1 25) [.ref (a 21), .int (nI s), .int (nI w)] (wE G a v f (S * wd) S V) (DV (wE G a v (up2 f 22 (upd (f 22) s (ptA 4 (P + w) (f 22 s)))) (S * wd) S V)) := by
  refine Con.of rfl rfl (fun X C E hR hl hn => ?_)
  refine e_aload_n C d_Tree_use_0 rfl ?_
  refine e_iload_n C d_Tree_use_1 rfl ?_
  refine e_iload_n C d_Tree_use_2 rfl ?_
  refine e_cVv C hR 21 (k_Tree_pointAway h hT hs hw) g498 g8 g495 g497 (gt_sel 5 (by decide +kernel) (by decide +kernel)) d_Tree_use_3 rfl ey_Tree_pointAway rfl rfl rfl rfl ⟨Nat.zero_le _, Nat.zero_le _⟩ ?_
  exact e_vret C E d_Tree_use_6 (Nat.le_refl _) (Nat.le_refl _) ⟨rfl, rfl⟩
theorem k_Tree_come (h : CD v S wd) (hT : TD v P wd) (hs : s < S) (hw : w < wd) : Con l G y_Tree_come c_Tree_come 3 none (rz 1 25) [.ref (a 21), .int (nI s), .int (nI w)] (wE G a v f (S * wd) S V) (DV (wE G a v (up2 f 22 (upd (f 22) s (ptA 4 (P + w) (f 22 s)))) (S * wd) S V)) := by
  refine Con.of rfl rfl (fun X C E hR hl hn => ?_)
  refine e_aload_n C d_Tree_come_0 rfl ?_
  refine e_iload_n C d_Tree_come_1 rfl ?_
  refine e_iload_n C d_Tree_come_2 rfl ?_
  refine e_cVv C hR 21 (k_Tree_pointAway h hT hs hw) g498 g8 g495 g497 (gt_sel 5 (by decide +kernel) (by decide +kernel)) d_Tree_come_3 rfl ey_Tree_pointAway rfl rfl rfl rfl ⟨Nat.zero_le _, Nat.zero_le _⟩ ?_
  exact e_vret C E d_Tree_come_6 (Nat.le_refl _) (Nat.le_refl _) ⟨rfl, rfl⟩
theorem k_Tree_settle (x y : Int32) : Con l G y_Tree_settle c_Tree_settle 4 none (rz 0 0) [.ref (a 21), .int x, .int y, .ref (a 6)] (wE G a v f (S * wd) S V) (DV (wE G a v f (S * wd) S V)) := by
  refine Con.of rfl rfl (fun X C E hR hl hn => ?_)
  exact e_vret C E d_Tree_settle_0 (Nat.le_refl _) (Nat.le_refl _) ⟨rfl, rfl⟩
theorem bitN_eq (t : Int32) (node : Nat) : (t >>> (nI node &&& 31)) &&& 1 = nI (bitN t node) := pk_and _ 1 (by decide)
theorem bitN_lt (t : Int32) (node : Nat) : bitN t node < 2 := Nat.mod_lt _ (by omega)
set_option maxRecDepth 100000 in
theorem k_Tree_choose (h : CD v S wd) (hT : TD v P wd) (hs : s < S) : Con l G y_Tree_choose c_Tree_choose 6 (some .int) (rz 0 0) [.ref (a 21), .int (nI s), .ref (a 6)] (wE G a v f (S * wd) S V) (DI (oI (trP f wd s P)) (wE G a v f (S * wd) S V)) := by
  refine Con.of rfl rfl (fun X C E hR hl hn => ?_)
  have hn1 := h.n128
  have hw8 := h.2.2.2.2
  have hP := hT.P8
  have hS := h.S16
  have hPw := hT.2.2
  unfold trP at E
  refine e_iconst C d_Tree_choose_0 (v := 1) (by decide) ?_
  refine e_istore_n C d_Tree_choose_1 rfl ?_
  have L : ∀ (m node : Nat), node * 2 ^ m ≥ P → node < 2 * P → 1 ≤ node → trC (f 22 s) P m node = trC (f 22 s) P 4 1 → EW X G 6 0 0 2 [(0, .ref (a 21)), (1, .int (nI s)), (2, .ref (a 6)), (3, .int (nI node))] [] (wE G a v f (S * wd) S V) := by
    have fin : ∀ node : Nat, P ≤ node → node < 2 * P → node = trC (f 22 s) P 4 1 → EW X G 6 0 0 28 [(0, .ref (a 21)), (1, .int (nI s)), (2, .ref (a 6)), (3, .int (nI node))] [] (wE G a v f (S * wd) S V) := by
      intro node h1 h2 hf
      rw [← hf] at E
      refine e_iconst C d_Tree_choose_28 (v := 0) (by decide) ?_
      refine e_istore C d_Tree_choose_29 rfl ?_
      have hand : ∀ x : Nat, x < 2 ^ 31 → nI x &&& (nI P - 1) = nI (x % P) := by
        intro x hx
        obtain ⟨-, ⟨k, hk, rfl⟩, -⟩ := hT
        exact pk_andN (by omega) k (by rcases (by omega : k = 0 ∨ k = 1 ∨ k = 2 ∨ k = 3) with rfl | rfl | rfl | rfl <;> decide)
      generalize hQ : (fun k => decide ((node + k) % P < wd) && !lkd f wd s ((node + k) % P)) = Q at E
      have L2 : ∀ (m k : Nat), k + m = P → fst1 Q k m = fst1 Q 0 P → EW X G 6 0 0 31 [(0, .ref (a 21)), (1, .int (nI s)), (2, .ref (a 6)), (3, .int (nI node)), (4, .int (nI k))] [] (wE G a v f (S * wd) S V) := by
        intro m
        induction m with
        | zero =>
          intro k hk hf
          refine e_iload C d_Tree_choose_31 rfl ?_
          refine e_aload_n C d_Tree_choose_33 rfl ?_
          refine e_get C 21 (k := 1) in_Tree g153 d_Tree_choose_34 rfl rfl rfl rfl ?_
          refine e_top hT.1 ?_
          refine e_icmp_ge C d_Tree_choose_37 (tgt := 85) (by decide) (fun h37 => ?_) (fun h37 => ?_)
          · skip
            refine e_iconst C d_Tree_choose_85 (v := (-1)) (by decide) ?_
            exact e_iret C E d_Tree_choose_86 (Nat.le_refl _) (Nat.le_refl _) rfl ⟨by rw [← hf]; rfl, rfl⟩
          · exact absurd (nI_le (by omega) (by omega)) h37
        | succ m ih =>
          intro k hk hf
          refine e_iload C d_Tree_choose_31 rfl ?_
          refine e_aload_n C d_Tree_choose_33 rfl ?_
          refine e_get C 21 (k := 1) in_Tree g153 d_Tree_choose_34 rfl rfl rfl rfl ?_
          refine e_top hT.1 ?_
          refine e_icmp_ge C d_Tree_choose_37 (tgt := 85) (by decide) (fun h37 => ?_) (fun h37 => ?_)
          · exact absurd h37 (nI_ge (by omega) (by omega))
          · have hml : (node + k) % P < P := Nat.mod_lt _ (by omega)
            refine e_iload_n C d_Tree_choose_40 rfl ?_
            refine e_iload C d_Tree_choose_41 rfl ?_
            refine e_iadd C d_Tree_choose_43 ?_
            refine e_top (nI_add _ _) ?_
            refine e_aload_n C d_Tree_choose_44 rfl ?_
            refine e_get C 21 (k := 1) in_Tree g153 d_Tree_choose_45 rfl rfl rfl rfl ?_
            refine e_top hT.1 ?_
            refine e_iconst C d_Tree_choose_48 (v := 1) (by decide) ?_
            refine e_isub C d_Tree_choose_49 ?_
            refine e_iand C d_Tree_choose_50 ?_
            refine e_top (hand _ (by omega)) ?_
            refine e_istore C d_Tree_choose_51 rfl ?_
            refine e_iload C d_Tree_choose_53 rfl ?_
            refine e_aload_n C d_Tree_choose_55 rfl ?_
            refine e_getI C 21 (k := 0) in_Tree g126 g127 d_Tree_choose_56 rfl rfl rfl rfl ?_
            refine e_top h.2.1 ?_
            refine e_icmp_ge C d_Tree_choose_59 (tgt := 79) (by decide) (fun h59 => ?_) (fun h59 => ?_)
            · rw [nI_leI (by omega) (by omega)] at h59
              have hq : Q k = false := by rw [← hQ]; simp [show ¬ (node + k) % P < wd by omega]
              refine e_iinc C d_Tree_choose_79 rfl (nI_1 k) rfl ?_
              refine e_goto C d_Tree_choose_82 (tgt := 31) (by decide) ?_
              exact e_lv2 (ih (k + 1) (by omega) (by rw [← hf]; simp [fst1, hq])) rfl
            · rw [nI_leI (by omega) (by omega)] at h59
              have hlt := slot_lt (w := (node + k) % P) hs (show (node + k) % P < wd by omega)
              refine e_aload_n C d_Tree_choose_62 rfl ?_
              refine e_iload_n C d_Tree_choose_63 rfl ?_
              refine e_aload_n C d_Tree_choose_64 rfl ?_
              refine e_getI C 21 (k := 0) in_Tree g126 g127 d_Tree_choose_65 rfl rfl rfl rfl ?_
              refine e_imul C d_Tree_choose_68 ?_
              refine e_iload C d_Tree_choose_69 rfl ?_
              refine e_iadd C d_Tree_choose_71 ?_
              refine e_zald C 6 1 d_Tree_choose_72 rfl rfl (s * wd + (node + k) % P) (by rw [h.2.1, pk_mul, nI_add]) hlt (by omega) ?_
              refine e_if_ne C d_Tree_choose_73 (tgt := 79) (by decide) (fun h73 => ?_) (fun h73 => ?_)
              · have hl2 : lkd f wd s ((node + k) % P) = true := by simp [lkd]; exact h73
                have hq : Q k = false := by rw [← hQ]; simp [hl2]
                refine e_iinc C d_Tree_choose_79 rfl (nI_1 k) rfl ?_
                refine e_goto C d_Tree_choose_82 (tgt := 31) (by decide) ?_
                exact e_lv2 (ih (k + 1) (by omega) (by rw [← hf]; simp [fst1, hq])) rfl
              · have hl2 : lkd f wd s ((node + k) % P) = false := by simp [lkd]; exact h73
                have hq : Q k = true := by rw [← hQ]; simp [hl2]; omega
                refine e_iload C d_Tree_choose_76 rfl ?_
                exact e_iret C E d_Tree_choose_78 (Nat.le_refl _) (Nat.le_refl _) rfl ⟨by rw [← hf]; simp [fst1, hq, oI], rfl⟩
      exact e_lv2 (L2 P 0 (by omega) rfl) rfl
    intro m
    induction m with
    | zero =>
      intro node h1 h2 h3 hf
      have hf : node = _ := hf
      refine e_iload_n C d_Tree_choose_2 rfl ?_
      refine e_aload_n C d_Tree_choose_3 rfl ?_
      refine e_get C 21 (k := 1) in_Tree g153 d_Tree_choose_4 rfl rfl rfl rfl ?_
      refine e_top hT.1 ?_
      refine e_icmp_ge C d_Tree_choose_7 (tgt := 28) (by decide) (fun h7 => ?_) (fun h7 => ?_)
      · exact fin node (by omega) h2 hf
      · exact absurd (nI_le (by omega) (by omega)) h7
    | succ m ih =>
      intro node h1 h2 h3 hf
      refine e_iload_n C d_Tree_choose_2 rfl ?_
      refine e_aload_n C d_Tree_choose_3 rfl ?_
      refine e_get C 21 (k := 1) in_Tree g153 d_Tree_choose_4 rfl rfl rfl rfl ?_
      refine e_top hT.1 ?_
      refine e_icmp_ge C d_Tree_choose_7 (tgt := 28) (by decide) (fun h7 => ?_) (fun h7 => ?_)
      · rw [nI_leI (by omega) (by omega)] at h7
        exact fin node h7 h2 (by rw [← hf]; simp only [trC, if_neg (show ¬ node < P by omega)])
      · rw [nI_leI (by omega) (by omega)] at h7
        have hb := bitN_lt (f 22 s) node
        refine e_iconst C d_Tree_choose_10 (v := nI 2) (by decide) ?_
        refine e_iload_n C d_Tree_choose_11 rfl ?_
        refine e_imul C d_Tree_choose_12 ?_
        refine e_top (pk_mul _ _) ?_
        refine e_aload_n C d_Tree_choose_13 rfl ?_
        refine e_get C 21 (k := 2) in_Tree g154 d_Tree_choose_14 rfl rfl rfl rfl ?_
        refine e_iload_n C d_Tree_choose_17 rfl ?_
        refine e_iald C 22 0 d_Tree_choose_18 rfl rfl s rfl hs (by omega) ?_
        refine e_iload_n C d_Tree_choose_19 rfl ?_
        refine e_ishr C d_Tree_choose_20 ?_
        refine e_iconst C d_Tree_choose_21 (v := 1) (by decide) ?_
        refine e_iand C d_Tree_choose_22 ?_
        refine e_top (bitN_eq _ _) ?_
        refine e_iadd C d_Tree_choose_23 ?_
        refine e_top (nI_add _ _) ?_
        refine e_istore_n C d_Tree_choose_24 rfl ?_
        refine e_goto C d_Tree_choose_25 (tgt := 2) (by decide) ?_
        refine e_lv2 (ih (2 * node + bitN (f 22 s) node) ?_ (by omega) (by omega) ?_) rfl
        · calc P ≤ node * 2 ^ (m + 1) := h1
            _ = 2 * node * 2 ^ m := by rw [Nat.pow_succ]; ac_rfl
            _ ≤ (2 * node + bitN (f 22 s) node) * 2 ^ m := Nat.mul_le_mul_right _ (by omega)
        · rw [← hf]
          simp only [trC, if_pos (show node < P by omega)]
  exact e_lv2 (L 4 1 (by omega) (by omega) (Nat.le_refl _) rfl) rfl
end TreeRows
