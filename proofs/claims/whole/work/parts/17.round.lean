/-! RULE 5 -/
theorem ey_Round_wayFromHand : eY y_Round_wayFromHand 2 = true := by decide +kernel
theorem d_Round_wayFromHand_0 : decode c_Round_wayFromHand 0 = .ok (.aload_n 0, 1) := by decide +kernel
theorem d_Round_wayFromHand_1 : decode c_Round_wayFromHand 1 = .ok (.getfield 15, 3) := by decide +kernel
theorem d_Round_wayFromHand_4 : decode c_Round_wayFromHand 4 = .ok (.iload_n 1, 1) := by decide +kernel
theorem d_Round_wayFromHand_5 : decode c_Round_wayFromHand 5 = .ok (.iaload, 1) := by decide +kernel
theorem d_Round_wayFromHand_6 : decode c_Round_wayFromHand 6 = .ok (.iload_n 2, 1) := by decide +kernel
theorem d_Round_wayFromHand_7 : decode c_Round_wayFromHand 7 = .ok (.iadd, 1) := by decide +kernel
theorem d_Round_wayFromHand_8 : decode c_Round_wayFromHand 8 = .ok (.istore_n 3, 1) := by decide +kernel
theorem d_Round_wayFromHand_9 : decode c_Round_wayFromHand 9 = .ok (.iload_n 3, 1) := by decide +kernel
theorem d_Round_wayFromHand_10 : decode c_Round_wayFromHand 10 = .ok (.aload_n 0, 1) := by decide +kernel
theorem d_Round_wayFromHand_11 : decode c_Round_wayFromHand 11 = .ok (.getfield 19, 3) := by decide +kernel
theorem d_Round_wayFromHand_14 : decode c_Round_wayFromHand 14 = .ok (.if_icmp .ge 7, 3) := by decide +kernel
theorem d_Round_wayFromHand_17 : decode c_Round_wayFromHand 17 = .ok (.iload_n 3, 1) := by decide +kernel
theorem d_Round_wayFromHand_18 : decode c_Round_wayFromHand 18 = .ok (.goto 9, 3) := by decide +kernel
theorem d_Round_wayFromHand_21 : decode c_Round_wayFromHand 21 = .ok (.iload_n 3, 1) := by decide +kernel
theorem d_Round_wayFromHand_22 : decode c_Round_wayFromHand 22 = .ok (.aload_n 0, 1) := by decide +kernel
theorem d_Round_wayFromHand_23 : decode c_Round_wayFromHand 23 = .ok (.getfield 19, 3) := by decide +kernel
theorem d_Round_wayFromHand_26 : decode c_Round_wayFromHand 26 = .ok (.isub, 1) := by decide +kernel
theorem d_Round_wayFromHand_27 : decode c_Round_wayFromHand 27 = .ok (.ireturn, 1) := by decide +kernel
theorem ey_Round_use : eY y_Round_use 2 = true := by decide +kernel
theorem d_Round_use_0 : decode c_Round_use 0 = .ok (.aload_n 0, 1) := by decide +kernel
theorem d_Round_use_1 : decode c_Round_use 1 = .ok (.getfield 9, 3) := by decide +kernel
theorem d_Round_use_4 : decode c_Round_use 4 = .ok (.iload_n 1, 1) := by decide +kernel
theorem d_Round_use_5 : decode c_Round_use 5 = .ok (.aload_n 0, 1) := by decide +kernel
theorem d_Round_use_6 : decode c_Round_use 6 = .ok (.getfield 19, 3) := by decide +kernel
theorem d_Round_use_9 : decode c_Round_use 9 = .ok (.imul, 1) := by decide +kernel
theorem d_Round_use_10 : decode c_Round_use 10 = .ok (.iload_n 2, 1) := by decide +kernel
theorem d_Round_use_11 : decode c_Round_use 11 = .ok (.iadd, 1) := by decide +kernel
theorem d_Round_use_12 : decode c_Round_use 12 = .ok (.iconst 1, 1) := by decide +kernel
theorem d_Round_use_13 : decode c_Round_use 13 = .ok (.bastore, 1) := by decide +kernel
theorem d_Round_use_14 : decode c_Round_use 14 = .ok (.return_, 1) := by decide +kernel
theorem ey_Round_come : eY y_Round_come 2 = true := by decide +kernel
theorem d_Round_come_0 : decode c_Round_come 0 = .ok (.aload_n 0, 1) := by decide +kernel
theorem d_Round_come_1 : decode c_Round_come 1 = .ok (.getfield 9, 3) := by decide +kernel
theorem d_Round_come_4 : decode c_Round_come 4 = .ok (.iload_n 1, 1) := by decide +kernel
theorem d_Round_come_5 : decode c_Round_come 5 = .ok (.aload_n 0, 1) := by decide +kernel
theorem d_Round_come_6 : decode c_Round_come 6 = .ok (.getfield 19, 3) := by decide +kernel
theorem d_Round_come_9 : decode c_Round_come 9 = .ok (.imul, 1) := by decide +kernel
theorem d_Round_come_10 : decode c_Round_come 10 = .ok (.iload_n 2, 1) := by decide +kernel
theorem d_Round_come_11 : decode c_Round_come 11 = .ok (.iadd, 1) := by decide +kernel
theorem d_Round_come_12 : decode c_Round_come 12 = .ok (.iconst 0, 1) := by decide +kernel
theorem d_Round_come_13 : decode c_Round_come 13 = .ok (.bastore, 1) := by decide +kernel
theorem d_Round_come_14 : decode c_Round_come 14 = .ok (.return_, 1) := by decide +kernel
theorem ey_Round_choose : eY y_Round_choose 2 = true := by decide +kernel
theorem d_Round_choose_0 : decode c_Round_choose 0 = .ok (.iconst (-1), 1) := by decide +kernel
theorem d_Round_choose_1 : decode c_Round_choose 1 = .ok (.istore_n 3, 1) := by decide +kernel
theorem d_Round_choose_2 : decode c_Round_choose 2 = .ok (.iconst 0, 1) := by decide +kernel
theorem d_Round_choose_3 : decode c_Round_choose 3 = .ok (.istore 4, 2) := by decide +kernel
theorem d_Round_choose_5 : decode c_Round_choose 5 = .ok (.iload 4, 2) := by decide +kernel
theorem d_Round_choose_7 : decode c_Round_choose 7 = .ok (.aload_n 0, 1) := by decide +kernel
theorem d_Round_choose_8 : decode c_Round_choose 8 = .ok (.getfield 19, 3) := by decide +kernel
theorem d_Round_choose_11 : decode c_Round_choose 11 = .ok (.if_icmp .ge 60, 3) := by decide +kernel
theorem d_Round_choose_14 : decode c_Round_choose 14 = .ok (.aload_n 0, 1) := by decide +kernel
theorem d_Round_choose_15 : decode c_Round_choose 15 = .ok (.iload_n 1, 1) := by decide +kernel
theorem d_Round_choose_16 : decode c_Round_choose 16 = .ok (.iload 4, 2) := by decide +kernel
theorem d_Round_choose_18 : decode c_Round_choose 18 = .ok (.invokevirtual 23, 3) := by decide +kernel
theorem d_Round_choose_21 : decode c_Round_choose 21 = .ok (.istore 5, 2) := by decide +kernel
theorem d_Round_choose_23 : decode c_Round_choose 23 = .ok (.aload_n 2, 1) := by decide +kernel
theorem d_Round_choose_24 : decode c_Round_choose 24 = .ok (.iload_n 1, 1) := by decide +kernel
theorem d_Round_choose_25 : decode c_Round_choose 25 = .ok (.aload_n 0, 1) := by decide +kernel
theorem d_Round_choose_26 : decode c_Round_choose 26 = .ok (.getfield 19, 3) := by decide +kernel
theorem d_Round_choose_29 : decode c_Round_choose 29 = .ok (.imul, 1) := by decide +kernel
theorem d_Round_choose_30 : decode c_Round_choose 30 = .ok (.iload 5, 2) := by decide +kernel
theorem d_Round_choose_32 : decode c_Round_choose 32 = .ok (.iadd, 1) := by decide +kernel
theorem d_Round_choose_33 : decode c_Round_choose 33 = .ok (.baload, 1) := by decide +kernel
theorem d_Round_choose_34 : decode c_Round_choose 34 = .ok (.ifCond .ne 31, 3) := by decide +kernel
theorem d_Round_choose_37 : decode c_Round_choose 37 = .ok (.aload_n 0, 1) := by decide +kernel
theorem d_Round_choose_38 : decode c_Round_choose 38 = .ok (.getfield 9, 3) := by decide +kernel
theorem d_Round_choose_41 : decode c_Round_choose 41 = .ok (.iload_n 1, 1) := by decide +kernel
theorem d_Round_choose_42 : decode c_Round_choose 42 = .ok (.aload_n 0, 1) := by decide +kernel
theorem d_Round_choose_43 : decode c_Round_choose 43 = .ok (.getfield 19, 3) := by decide +kernel
theorem d_Round_choose_46 : decode c_Round_choose 46 = .ok (.imul, 1) := by decide +kernel
theorem d_Round_choose_47 : decode c_Round_choose 47 = .ok (.iload 5, 2) := by decide +kernel
theorem d_Round_choose_49 : decode c_Round_choose 49 = .ok (.iadd, 1) := by decide +kernel
theorem d_Round_choose_50 : decode c_Round_choose 50 = .ok (.baload, 1) := by decide +kernel
theorem d_Round_choose_51 : decode c_Round_choose 51 = .ok (.ifCond .ne 6, 3) := by decide +kernel
theorem d_Round_choose_54 : decode c_Round_choose 54 = .ok (.iload 5, 2) := by decide +kernel
theorem d_Round_choose_56 : decode c_Round_choose 56 = .ok (.ireturn, 1) := by decide +kernel
theorem d_Round_choose_57 : decode c_Round_choose 57 = .ok (.iload_n 3, 1) := by decide +kernel
theorem d_Round_choose_58 : decode c_Round_choose 58 = .ok (.iconst (-1), 1) := by decide +kernel
theorem d_Round_choose_59 : decode c_Round_choose 59 = .ok (.if_icmp .ne 6, 3) := by decide +kernel
theorem d_Round_choose_62 : decode c_Round_choose 62 = .ok (.iload 5, 2) := by decide +kernel
theorem d_Round_choose_64 : decode c_Round_choose 64 = .ok (.istore_n 3, 1) := by decide +kernel
theorem d_Round_choose_65 : decode c_Round_choose 65 = .ok (.iinc 4 1, 3) := by decide +kernel
theorem d_Round_choose_68 : decode c_Round_choose 68 = .ok (.goto (-63), 3) := by decide +kernel
theorem d_Round_choose_71 : decode c_Round_choose 71 = .ok (.iload_n 3, 1) := by decide +kernel
theorem d_Round_choose_72 : decode c_Round_choose 72 = .ok (.ireturn, 1) := by decide +kernel
theorem ey_Round_settle : eY y_Round_settle 3 = true := by decide +kernel
theorem d_Round_settle_0 : decode c_Round_settle 0 = .ok (.aload_n 0, 1) := by decide +kernel
theorem d_Round_settle_1 : decode c_Round_settle 1 = .ok (.getfield 9, 3) := by decide +kernel
theorem d_Round_settle_4 : decode c_Round_settle 4 = .ok (.iload_n 1, 1) := by decide +kernel
theorem d_Round_settle_5 : decode c_Round_settle 5 = .ok (.aload_n 0, 1) := by decide +kernel
theorem d_Round_settle_6 : decode c_Round_settle 6 = .ok (.getfield 19, 3) := by decide +kernel
theorem d_Round_settle_9 : decode c_Round_settle 9 = .ok (.imul, 1) := by decide +kernel
theorem d_Round_settle_10 : decode c_Round_settle 10 = .ok (.iload_n 2, 1) := by decide +kernel
theorem d_Round_settle_11 : decode c_Round_settle 11 = .ok (.iadd, 1) := by decide +kernel
theorem d_Round_settle_12 : decode c_Round_settle 12 = .ok (.baload, 1) := by decide +kernel
theorem d_Round_settle_13 : decode c_Round_settle 13 = .ok (.istore 4, 2) := by decide +kernel
theorem d_Round_settle_15 : decode c_Round_settle 15 = .ok (.iconst 0, 1) := by decide +kernel
theorem d_Round_settle_16 : decode c_Round_settle 16 = .ok (.istore 5, 2) := by decide +kernel
theorem d_Round_settle_18 : decode c_Round_settle 18 = .ok (.iload 5, 2) := by decide +kernel
theorem d_Round_settle_20 : decode c_Round_settle 20 = .ok (.aload_n 0, 1) := by decide +kernel
theorem d_Round_settle_21 : decode c_Round_settle 21 = .ok (.getfield 19, 3) := by decide +kernel
theorem d_Round_settle_24 : decode c_Round_settle 24 = .ok (.if_icmp .ge 61, 3) := by decide +kernel
theorem d_Round_settle_27 : decode c_Round_settle 27 = .ok (.aload_n 0, 1) := by decide +kernel
theorem d_Round_settle_28 : decode c_Round_settle 28 = .ok (.iload_n 1, 1) := by decide +kernel
theorem d_Round_settle_29 : decode c_Round_settle 29 = .ok (.iload 5, 2) := by decide +kernel
theorem d_Round_settle_31 : decode c_Round_settle 31 = .ok (.invokevirtual 23, 3) := by decide +kernel
theorem d_Round_settle_34 : decode c_Round_settle 34 = .ok (.istore 6, 2) := by decide +kernel
theorem d_Round_settle_36 : decode c_Round_settle 36 = .ok (.iload 6, 2) := by decide +kernel
theorem d_Round_settle_38 : decode c_Round_settle 38 = .ok (.iload_n 2, 1) := by decide +kernel
theorem d_Round_settle_39 : decode c_Round_settle 39 = .ok (.if_icmp .ne 11, 3) := by decide +kernel
theorem d_Round_settle_42 : decode c_Round_settle 42 = .ok (.iload 4, 2) := by decide +kernel
theorem d_Round_settle_44 : decode c_Round_settle 44 = .ok (.ifCond .ne 6, 3) := by decide +kernel
theorem d_Round_settle_47 : decode c_Round_settle 47 = .ok (.goto 38, 3) := by decide +kernel
theorem d_Round_settle_50 : decode c_Round_settle 50 = .ok (.aload_n 3, 1) := by decide +kernel
theorem d_Round_settle_51 : decode c_Round_settle 51 = .ok (.iload_n 1, 1) := by decide +kernel
theorem d_Round_settle_52 : decode c_Round_settle 52 = .ok (.aload_n 0, 1) := by decide +kernel
theorem d_Round_settle_53 : decode c_Round_settle 53 = .ok (.getfield 19, 3) := by decide +kernel
theorem d_Round_settle_56 : decode c_Round_settle 56 = .ok (.imul, 1) := by decide +kernel
theorem d_Round_settle_57 : decode c_Round_settle 57 = .ok (.iload 6, 2) := by decide +kernel
theorem d_Round_settle_59 : decode c_Round_settle 59 = .ok (.iadd, 1) := by decide +kernel
theorem d_Round_settle_60 : decode c_Round_settle 60 = .ok (.baload, 1) := by decide +kernel
theorem d_Round_settle_61 : decode c_Round_settle 61 = .ok (.ifCond .ne 18, 3) := by decide +kernel
theorem d_Round_settle_64 : decode c_Round_settle 64 = .ok (.aload_n 0, 1) := by decide +kernel
theorem d_Round_settle_65 : decode c_Round_settle 65 = .ok (.getfield 9, 3) := by decide +kernel
theorem d_Round_settle_68 : decode c_Round_settle 68 = .ok (.iload_n 1, 1) := by decide +kernel
theorem d_Round_settle_69 : decode c_Round_settle 69 = .ok (.aload_n 0, 1) := by decide +kernel
theorem d_Round_settle_70 : decode c_Round_settle 70 = .ok (.getfield 19, 3) := by decide +kernel
theorem d_Round_settle_73 : decode c_Round_settle 73 = .ok (.imul, 1) := by decide +kernel
theorem d_Round_settle_74 : decode c_Round_settle 74 = .ok (.iload 6, 2) := by decide +kernel
theorem d_Round_settle_76 : decode c_Round_settle 76 = .ok (.iadd, 1) := by decide +kernel
theorem d_Round_settle_77 : decode c_Round_settle 77 = .ok (.iconst 0, 1) := by decide +kernel
theorem d_Round_settle_78 : decode c_Round_settle 78 = .ok (.bastore, 1) := by decide +kernel
theorem d_Round_settle_79 : decode c_Round_settle 79 = .ok (.iinc 5 1, 3) := by decide +kernel
theorem d_Round_settle_82 : decode c_Round_settle 82 = .ok (.goto (-64), 3) := by decide +kernel
theorem d_Round_settle_85 : decode c_Round_settle 85 = .ok (.aload_n 0, 1) := by decide +kernel
theorem d_Round_settle_86 : decode c_Round_settle 86 = .ok (.getfield 15, 3) := by decide +kernel
theorem d_Round_settle_89 : decode c_Round_settle 89 = .ok (.iload_n 1, 1) := by decide +kernel
theorem d_Round_settle_90 : decode c_Round_settle 90 = .ok (.iload_n 2, 1) := by decide +kernel
theorem d_Round_settle_91 : decode c_Round_settle 91 = .ok (.iconst 1, 1) := by decide +kernel
theorem d_Round_settle_92 : decode c_Round_settle 92 = .ok (.iadd, 1) := by decide +kernel
theorem d_Round_settle_93 : decode c_Round_settle 93 = .ok (.aload_n 0, 1) := by decide +kernel
theorem d_Round_settle_94 : decode c_Round_settle 94 = .ok (.getfield 19, 3) := by decide +kernel
theorem d_Round_settle_97 : decode c_Round_settle 97 = .ok (.if_icmp .ge 9, 3) := by decide +kernel
theorem d_Round_settle_100 : decode c_Round_settle 100 = .ok (.iload_n 2, 1) := by decide +kernel
theorem d_Round_settle_101 : decode c_Round_settle 101 = .ok (.iconst 1, 1) := by decide +kernel
theorem d_Round_settle_102 : decode c_Round_settle 102 = .ok (.iadd, 1) := by decide +kernel
theorem d_Round_settle_103 : decode c_Round_settle 103 = .ok (.goto 4, 3) := by decide +kernel
theorem d_Round_settle_106 : decode c_Round_settle 106 = .ok (.iconst 0, 1) := by decide +kernel
theorem d_Round_settle_107 : decode c_Round_settle 107 = .ok (.iastore, 1) := by decide +kernel
theorem d_Round_settle_108 : decode c_Round_settle 108 = .ok (.return_, 1) := by decide +kernel
abbrev wR (G : EG) (a : Nat → Nat) (v : Nat → Int32) (f : Nat → Nat → Int32) (n S V : Nat) : va_W := cF G a v f n V (rRound G a v f n S)
/-- the way that lies t behind the hand -/
def wfh (wd h0 t : Nat) : Nat := if h0 + t < wd then h0 + t else h0 + t - wd
theorem wfh_lt {wd h0 t : Nat} (h : h0 < wd) (ht : t < wd) : wfh wd h0 t < wd := by
  unfold wfh
  split <;> omega
/-- marked, by the way of a set -/
def mkd (f : Nat → Nat → Int32) (wd s w : Nat) : Bool := !(f 22 (s * wd + w) == 0)
/-- the first without a mark; b is the first one that is free so far -/
def rndC (lk mk : Nat → Bool) (wy : Nat → Nat) : Option Nat → Nat → Nat → Option Nat
  | b, _, 0 => b
  | b, k, m + 1 => if lk (wy k) then rndC lk mk wy b (k + 1) m else if mk (wy k) then rndC lk mk wy (match b with
    | none => some (wy k)
    | some j => some j) (k + 1) m else some (wy k)
/-- marks taken away on the way -/
def rndS (lk : Nat → Bool) (wy : Nat → Nat) (whole : Bool) (w b0 : Nat) : (Nat → Int32) → Nat → Nat → (Nat → Int32)
  | g, _, 0 => g
  | g, k, m + 1 => if wy k = w ∧ whole = false then g else rndS lk wy whole w b0 (if lk (wy k) then g else upd g (b0 + wy k) 0) (k + 1) m
section RoundRows
variable {l : Launch} {G : EG} {a : Nat → Nat} {v : Nat → Int32} {f : Nat → Nat → Int32} {V S wd s w : Nat}
set_option maxRecDepth 100000 in
theorem k_Round_use (h : CD v S wd) (hs : s < S) (hw : w < wd) : Con l G y_Round_use c_Round_use 3 none (rz 0 0) [.ref (a 21), .int (nI s), .int (nI w)] (wR G a v f (S * wd) S V) (DV (wR G a v (up2 f 22 (upd (f 22) (s * wd + w) 1)) (S * wd) S V)) := by
  refine Con.of rfl rfl (fun X C E hR hl hn => ?_)
  have hn1 := h.n128
  have hlt := slot_lt hs hw
  refine e_aload_n C d_Round_use_0 rfl ?_
  refine e_get C 21 (k := 1) in_Round g139 d_Round_use_1 rfl rfl rfl rfl ?_
  refine e_iload_n C d_Round_use_4 rfl ?_
  refine e_aload_n C d_Round_use_5 rfl ?_
  refine e_getI C 21 (k := 0) in_Round g122 g123 d_Round_use_6 rfl rfl rfl rfl ?_
  refine e_imul C d_Round_use_9 ?_
  refine e_iload_n C d_Round_use_10 rfl ?_
  refine e_iadd C d_Round_use_11 ?_
  refine e_iconst C d_Round_use_12 (v := 1) (by decide) ?_
  refine e_zast C 22 1 d_Round_use_13 rfl rfl (s * wd + w) (by rw [h.2.1, pk_mul, nI_add]) hlt (by omega) rfl ?_
  exact e_vret C E d_Round_use_14 (Nat.le_refl _) (Nat.le_refl _) ⟨rfl, rfl⟩
set_option maxRecDepth 100000 in
theorem k_Round_come (h : CD v S wd) (hs : s < S) (hw : w < wd) : Con l G y_Round_come c_Round_come 3 none (rz 0 0) [.ref (a 21), .int (nI s), .int (nI w)] (wR G a v f (S * wd) S V) (DV (wR G a v (up2 f 22 (upd (f 22) (s * wd + w) 0)) (S * wd) S V)) := by
  refine Con.of rfl rfl (fun X C E hR hl hn => ?_)
  have hn1 := h.n128
  have hlt := slot_lt hs hw
  refine e_aload_n C d_Round_come_0 rfl ?_
  refine e_get C 21 (k := 1) in_Round g139 d_Round_come_1 rfl rfl rfl rfl ?_
  refine e_iload_n C d_Round_come_4 rfl ?_
  refine e_aload_n C d_Round_come_5 rfl ?_
  refine e_getI C 21 (k := 0) in_Round g122 g123 d_Round_come_6 rfl rfl rfl rfl ?_
  refine e_imul C d_Round_come_9 ?_
  refine e_iload_n C d_Round_come_10 rfl ?_
  refine e_iadd C d_Round_come_11 ?_
  refine e_iconst C d_Round_come_12 (v := 0) (by decide) ?_
  refine e_zast C 22 1 d_Round_come_13 rfl rfl (s * wd + w) (by rw [h.2.1, pk_mul, nI_add]) hlt (by omega) rfl ?_
  exact e_vret C E d_Round_come_14 (Nat.le_refl _) (Nat.le_refl _) ⟨rfl, rfl⟩
set_option maxRecDepth 100000 in
theorem k_Round_wayFromHand (h : CD v S wd) (hs : s < S) {h0 t : Nat} (hh0 : h0 < wd) (ht : t < wd) (hh : f 23 s = nI h0) : Con l G y_Round_wayFromHand c_Round_wayFromHand 4 (some .int) (rz 0 0) [.ref (a 21), .int (nI s), .int (nI t)] (wR G a v f (S * wd) S V) (DI (nI (wfh wd h0 t)) (wR G a v f (S * wd) S V)) := by
  refine Con.of rfl rfl (fun X C E hR hl hn => ?_)
  have hn1 := h.n128
  have hw8 := h.2.2.2.2
  have hS := h.S16
  refine e_aload_n C d_Round_wayFromHand_0 rfl ?_
  refine e_get C 21 (k := 2) in_Round g140 d_Round_wayFromHand_1 rfl rfl rfl rfl ?_
  refine e_iload_n C d_Round_wayFromHand_4 rfl ?_
  refine e_iald C 23 0 d_Round_wayFromHand_5 rfl rfl s rfl hs (by omega) ?_
  refine e_iload_n C d_Round_wayFromHand_6 rfl ?_
  refine e_iadd C d_Round_wayFromHand_7 ?_
  refine e_top (y := nI (h0 + t)) (by show f 23 s + nI t = _; rw [hh]; exact nI_add _ _) ?_
  refine e_istore_n C d_Round_wayFromHand_8 rfl ?_
  refine e_iload_n C d_Round_wayFromHand_9 rfl ?_
  refine e_aload_n C d_Round_wayFromHand_10 rfl ?_
  refine e_getI C 21 (k := 0) in_Round g122 g123 d_Round_wayFromHand_11 rfl rfl rfl rfl ?_
  refine e_top (show _ = nI wd from h.2.1) ?_
  refine e_icmp_ge C d_Round_wayFromHand_14 (tgt := 21) (by decide) (fun h14 => ?_) (fun h14 => ?_)
  · rw [nI_leI (by omega) (by omega)] at h14
    refine e_iload_n C d_Round_wayFromHand_21 rfl ?_
    refine e_aload_n C d_Round_wayFromHand_22 rfl ?_
    refine e_getI C 21 (k := 0) in_Round g122 g123 d_Round_wayFromHand_23 rfl rfl rfl rfl ?_
    refine e_top (show _ = nI wd from h.2.1) ?_
    refine e_isub C d_Round_wayFromHand_26 ?_
    refine e_top (pk_sub h14) ?_
    exact e_iret C E d_Round_wayFromHand_27 (Nat.le_refl _) (Nat.le_refl _) rfl ⟨by simp only [wfh, if_neg (show ¬ h0 + t < wd by omega)], rfl⟩
  · rw [nI_leI (by omega) (by omega)] at h14
    refine e_iload_n C d_Round_wayFromHand_17 rfl ?_
    refine e_goto C d_Round_wayFromHand_18 (tgt := 27) (by decide) ?_
    exact e_iret C E d_Round_wayFromHand_27 (Nat.le_refl _) (Nat.le_refl _) rfl ⟨by simp only [wfh, if_pos (show h0 + t < wd by omega)], rfl⟩
set_option maxRecDepth 100000 in
theorem k_Round_choose (h : CD v S wd) (hs : s < S) {h0 : Nat} (hh0 : h0 < wd) (hh : f 23 s = nI h0) : Con l G y_Round_choose c_Round_choose 6 (some .int) (rz 1 23) [.ref (a 21), .int (nI s), .ref (a 6)] (wR G a v f (S * wd) S V) (DI (oI (rndC (lkd f wd s) (mkd f wd s) (wfh wd h0) none 0 wd)) (wR G a v f (S * wd) S V)) := by
  refine Con.of rfl rfl (fun X C E hR hl hn => ?_)
  have hn1 := h.n128
  have hw8 := h.2.2.2.2
  refine e_iconst C d_Round_choose_0 (v := (-1)) (by decide) ?_
  refine e_istore_n C d_Round_choose_1 rfl ?_
  refine e_iconst C d_Round_choose_2 (v := 0) (by decide) ?_
  refine e_istore C d_Round_choose_3 rfl ?_
  have L : ∀ (m k : Nat) (b : Option Nat) (ex : List (Nat × Value)), k + m = wd → (∀ j, b = some j → j < wd) → rndC (lkd f wd s) (mkd f wd s) (wfh wd h0) b k m = rndC (lkd f wd s) (mkd f wd s) (wfh wd h0) none 0 wd → EW X G 6 0 0 5 [(0, .ref (a 21)), (1, .int (nI s)), (2, .ref (a 6)), (3, .int (oI b)), (4, .int (nI k))] [] (wR G a v f (S * wd) S V) := by
    intro m
    induction m with
    | zero =>
      intro k b ex hk hb hf
      refine e_iload C d_Round_choose_5 rfl ?_
      refine e_aload_n C d_Round_choose_7 rfl ?_
      refine e_getI C 21 (k := 0) in_Round g122 g123 d_Round_choose_8 rfl rfl rfl rfl ?_
      refine e_top h.2.1 ?_
      refine e_icmp_ge C d_Round_choose_11 (tgt := 71) (by decide) (fun h11 => ?_) (fun h11 => ?_)
      · skip
        refine e_iload_n C d_Round_choose_71 rfl ?_
        exact e_iret C E d_Round_choose_72 (Nat.le_refl _) (Nat.le_refl _) rfl ⟨by rw [← hf]; rfl, rfl⟩
      · exact absurd (nI_le (by omega) (by omega)) h11
    | succ m ih =>
      intro k b ex hk hb hf
      have hwl := wfh_lt hh0 (show k < wd by omega)
      have hlt := slot_lt hs hwl
      refine e_iload C d_Round_choose_5 rfl ?_
      refine e_aload_n C d_Round_choose_7 rfl ?_
      refine e_getI C 21 (k := 0) in_Round g122 g123 d_Round_choose_8 rfl rfl rfl rfl ?_
      refine e_top h.2.1 ?_
      refine e_icmp_ge C d_Round_choose_11 (tgt := 71) (by decide) (fun h11 => ?_) (fun h11 => ?_)
      · exact absurd h11 (nI_ge (by omega) (by omega))
      · skip
        refine e_aload_n C d_Round_choose_14 rfl ?_
        refine e_iload_n C d_Round_choose_15 rfl ?_
        refine e_iload C d_Round_choose_16 rfl ?_
        refine e_cVi C hR 21 (k_Round_wayFromHand h hs hh0 (show k < wd by omega) hh) g534 g7 g531 g533 (gt_sel 8 (by decide +kernel) (by decide +kernel)) d_Round_choose_18 rfl ey_Round_wayFromHand rfl rfl rfl rfl ⟨Nat.zero_le _, Nat.zero_le _⟩ ?_
        refine e_istore C d_Round_choose_21 rfl ?_
        refine e_aload_n C d_Round_choose_23 rfl ?_
        refine e_iload_n C d_Round_choose_24 rfl ?_
        refine e_aload_n C d_Round_choose_25 rfl ?_
        refine e_getI C 21 (k := 0) in_Round g122 g123 d_Round_choose_26 rfl rfl rfl rfl ?_
        refine e_imul C d_Round_choose_29 ?_
        refine e_iload C d_Round_choose_30 rfl ?_
        refine e_iadd C d_Round_choose_32 ?_
        refine e_zald C 6 1 d_Round_choose_33 rfl rfl (s * wd + wfh wd h0 k) (by rw [h.2.1, pk_mul, nI_add]) hlt (by omega) ?_
        refine e_if_ne C d_Round_choose_34 (tgt := 65) (by decide) (fun h34 => ?_) (fun h34 => ?_)
        · have hl2 : lkd f wd s (wfh wd h0 k) = true := by simp [lkd]; exact h34
          refine e_iinc C d_Round_choose_65 rfl (nI_1 k) rfl ?_
          refine e_goto C d_Round_choose_68 (tgt := 5) (by decide) ?_
          exact e_lv2 (ih (k + 1) b ex (by omega) hb (by rw [← hf]; simp [rndC, hl2])) rfl
        · have hl2 : lkd f wd s (wfh wd h0 k) = false := by simp [lkd]; exact h34
          refine e_aload_n C d_Round_choose_37 rfl ?_
          refine e_get C 21 (k := 1) in_Round g139 d_Round_choose_38 rfl rfl rfl rfl ?_
          refine e_iload_n C d_Round_choose_41 rfl ?_
          refine e_aload_n C d_Round_choose_42 rfl ?_
          refine e_getI C 21 (k := 0) in_Round g122 g123 d_Round_choose_43 rfl rfl rfl rfl ?_
          refine e_imul C d_Round_choose_46 ?_
          refine e_iload C d_Round_choose_47 rfl ?_
          refine e_iadd C d_Round_choose_49 ?_
          refine e_zald C 22 1 d_Round_choose_50 rfl rfl (s * wd + wfh wd h0 k) (by rw [h.2.1, pk_mul, nI_add]) hlt (by omega) ?_
          refine e_if_ne C d_Round_choose_51 (tgt := 57) (by decide) (fun h51 => ?_) (fun h51 => ?_)
          · have hm2 : mkd f wd s (wfh wd h0 k) = true := by simp [mkd]; exact h51
            refine e_iload_n C d_Round_choose_57 rfl ?_
            refine e_iconst C d_Round_choose_58 (v := (-1)) (by decide) ?_
            refine e_icmp_ne C d_Round_choose_59 (tgt := 65) (by decide) (fun h59 => ?_) (fun h59 => ?_)
            · cases b with
              | none => exact absurd rfl h59
              | some j =>
                refine e_iinc C d_Round_choose_65 rfl (nI_1 k) rfl ?_
                refine e_goto C d_Round_choose_68 (tgt := 5) (by decide) ?_
                exact e_lv2 (ih (k + 1) (some j) ex (by omega) hb (by rw [← hf]; simp [rndC, hl2, hm2])) rfl
            · cases b with
              | some j => exact absurd h59 (by rw [oI_n1 (fun k hk => by have := hb k hk; omega)]; simp)
              | none =>
                refine e_iload C d_Round_choose_62 rfl ?_
                refine e_istore_n C d_Round_choose_64 rfl ?_
                refine e_iinc C d_Round_choose_65 rfl (nI_1 k) rfl ?_
                refine e_goto C d_Round_choose_68 (tgt := 5) (by decide) ?_
                exact e_lv2 (ih (k + 1) (some (wfh wd h0 k)) ex (by omega) (fun j hj => by cases hj; exact hwl) (by rw [← hf]; simp [rndC, hl2, hm2])) rfl
          · have hm2 : mkd f wd s (wfh wd h0 k) = false := by simp [mkd]; exact h51
            refine e_iload C d_Round_choose_54 rfl ?_
            exact e_iret C E d_Round_choose_56 (Nat.le_refl _) (Nat.le_refl _) rfl ⟨by rw [← hf]; simp [rndC, hl2, hm2, oI], rfl⟩
  exact e_lv2 (L wd 0 none [] (by omega) (fun j hj => by cases hj) rfl) rfl
/-- the hand behind a way -/
def nxt (wd w : Nat) : Nat := if w + 1 < wd then w + 1 else 0
set_option maxRecDepth 100000 in
theorem settle_end {X : EX} {B : Option Value → va_W → Prop} (C : EC X G "CacheRules$RoundRule" c_Round_settle 7) (E : ER X G 0 0 B none) (h : CD v S wd) (hs : s < S) (hw : w < wd) {g : Nat → Int32} {lv : List (Nat × Value)} (hl0 : lvg lv 0 = some (.ref (a 21))) (hl1 : lvg lv 1 = some (.int (nI s))) (hl2 : lvg lv 2 = some (.int (nI w)))
    (hB : B none (wR G a v (up2 (up2 f 22 g) 23 (upd (f 23) s (nI (nxt wd w)))) (S * wd) S V)) : EW X G 7 0 0 85 lv [] (wR G a v (up2 f 22 g) (S * wd) S V) := by
  have hw8 := h.2.2.2.2
  have hS := h.S16
  refine e_aload_n C d_Round_settle_85 hl0 ?_
  refine e_get C 21 (k := 2) in_Round g140 d_Round_settle_86 rfl rfl rfl rfl ?_
  refine e_iload_n C d_Round_settle_89 hl1 ?_
  refine e_iload_n C d_Round_settle_90 hl2 ?_
  refine e_iconst C d_Round_settle_91 (v := 1) (by decide) ?_
  refine e_iadd C d_Round_settle_92 ?_
  refine e_top (nI_1 w) ?_
  refine e_aload_n C d_Round_settle_93 hl0 ?_
  refine e_getI C 21 (k := 0) in_Round g122 g123 d_Round_settle_94 rfl rfl rfl rfl ?_
  refine e_top (show _ = nI wd from h.2.1) ?_
  refine e_icmp_ge C d_Round_settle_97 (tgt := 106) (by decide) (fun h97 => ?_) (fun h97 => ?_)
  · rw [nI_leI (by omega) (by omega)] at h97
    rw [show nxt wd w = 0 by simp only [nxt, if_neg (show ¬ w + 1 < wd by omega)]] at hB
    refine e_iconst C d_Round_settle_106 (v := 0) (by decide) ?_
    refine e_iast C 23 0 d_Round_settle_107 rfl rfl s rfl hs (by omega) ?_
    exact e_vret C E d_Round_settle_108 (Nat.le_refl _) (Nat.le_refl _) hB
  · rw [nI_leI (by omega) (by omega)] at h97
    rw [show nxt wd w = w + 1 by simp only [nxt, if_pos (show w + 1 < wd by omega)]] at hB
    refine e_iload_n C d_Round_settle_100 hl2 ?_
    refine e_iconst C d_Round_settle_101 (v := 1) (by decide) ?_
    refine e_iadd C d_Round_settle_102 ?_
    refine e_top (nI_1 w) ?_
    refine e_goto C d_Round_settle_103 (tgt := 107) (by decide) ?_
    refine e_iast C 23 0 d_Round_settle_107 rfl rfl s rfl hs (by omega) ?_
    exact e_vret C E d_Round_settle_108 (Nat.le_refl _) (Nat.le_refl _) hB
set_option maxRecDepth 100000 in
theorem k_Round_settle (h : CD v S wd) (hs : s < S) (hw : w < wd) {h0 : Nat} (hh0 : h0 < wd) (hh : f 23 s = nI h0) : Con l G y_Round_settle c_Round_settle 7 none (rz 1 23) [.ref (a 21), .int (nI s), .int (nI w), .ref (a 6)] (wR G a v f (S * wd) S V) (DV (wR G a v (up2 (up2 f 22 (rndS (lkd f wd s) (wfh wd h0) (mkd f wd s w) w (s * wd) (f 22) 0 wd)) 23 (upd (f 23) s (nI (nxt wd w)))) (S * wd) S V)) := by
  refine Con.of rfl rfl (fun X C E hR hl hn => ?_)
  have hn1 := h.n128
  have hw8 := h.2.2.2.2
  have hltw := slot_lt hs hw
  refine e_aload_n C d_Round_settle_0 rfl ?_
  refine e_get C 21 (k := 1) in_Round g139 d_Round_settle_1 rfl rfl rfl rfl ?_
  refine e_iload_n C d_Round_settle_4 rfl ?_
  refine e_aload_n C d_Round_settle_5 rfl ?_
  refine e_getI C 21 (k := 0) in_Round g122 g123 d_Round_settle_6 rfl rfl rfl rfl ?_
  refine e_imul C d_Round_settle_9 ?_
  refine e_iload_n C d_Round_settle_10 rfl ?_
  refine e_iadd C d_Round_settle_11 ?_
  refine e_zald C 22 1 d_Round_settle_12 rfl rfl (s * wd + w) (by rw [h.2.1, pk_mul, nI_add]) hltw (by omega) ?_
  refine e_istore C d_Round_settle_13 rfl ?_
  refine e_iconst C d_Round_settle_15 (v := 0) (by decide) ?_
  refine e_istore C d_Round_settle_16 rfl ?_
  have L : ∀ (m k : Nat) (g : Nat → Int32), k + m = wd → rndS (lkd f wd s) (wfh wd h0) (mkd f wd s w) w (s * wd) g k m = rndS (lkd f wd s) (wfh wd h0) (mkd f wd s w) w (s * wd) (f 22) 0 wd → EW X G 7 0 0 18 [(0, .ref (a 21)), (1, .int (nI s)), (2, .int (nI w)), (3, .ref (a 6)), (4, .int (f 22 (s * wd + w))), (5, .int (nI k))] [] (wR G a v (up2 f 22 g) (S * wd) S V) := by
    intro m
    induction m with
    | zero =>
      intro k g hk hf
      have hf : g = _ := hf
      refine e_iload C d_Round_settle_18 rfl ?_
      refine e_aload_n C d_Round_settle_20 rfl ?_
      refine e_getI C 21 (k := 0) in_Round g122 g123 d_Round_settle_21 rfl rfl rfl rfl ?_
      refine e_top (show _ = nI wd from h.2.1) ?_
      refine e_icmp_ge C d_Round_settle_24 (tgt := 85) (by decide) (fun h24 => ?_) (fun h24 => ?_)
      · exact settle_end C E h hs hw rfl rfl rfl ⟨rfl, by rw [← hf]⟩
      · exact absurd (nI_le (by omega) (by omega)) h24
    | succ m ih =>
      intro k g hk hf
      have hwl := wfh_lt hh0 (show k < wd by omega)
      have hlt := slot_lt hs hwl
      have stepL : ¬ (wfh wd h0 k = w ∧ mkd f wd s w = false) → EW X G 7 0 0 50 [(0, .ref (a 21)), (1, .int (nI s)), (2, .int (nI w)), (3, .ref (a 6)), (4, .int (f 22 (s * wd + w))), (5, .int (nI k)), (6, .int (nI (wfh wd h0 k)))] [] (wR G a v (up2 f 22 g) (S * wd) S V) := by
        intro hne
        refine e_aload_n C d_Round_settle_50 rfl ?_
        refine e_iload_n C d_Round_settle_51 rfl ?_
        refine e_aload_n C d_Round_settle_52 rfl ?_
        refine e_getI C 21 (k := 0) in_Round g122 g123 d_Round_settle_53 rfl rfl rfl rfl ?_
        refine e_imul C d_Round_settle_56 ?_
        refine e_iload C d_Round_settle_57 rfl ?_
        refine e_iadd C d_Round_settle_59 ?_
        refine e_zald C 6 1 d_Round_settle_60 rfl rfl (s * wd + wfh wd h0 k) (by show nI s * v 7 + _ = _; rw [h.2.1, pk_mul, nI_add]) hlt (by omega) ?_
        refine e_if_ne C d_Round_settle_61 (tgt := 79) (by decide) (fun h61 => ?_) (fun h61 => ?_)
        · have hl2 : lkd f wd s (wfh wd h0 k) = true := by simp [lkd]; exact h61
          refine e_iinc C d_Round_settle_79 rfl (nI_1 k) rfl ?_
          refine e_goto C d_Round_settle_82 (tgt := 18) (by decide) ?_
          exact e_lv2 (ih (k + 1) g (by omega) (by rw [← hf]; simp only [rndS, if_neg hne, hl2, if_true])) rfl
        · have hl2 : lkd f wd s (wfh wd h0 k) = false := by simp [lkd]; exact h61
          refine e_aload_n C d_Round_settle_64 rfl ?_
          refine e_get C 21 (k := 1) in_Round g139 d_Round_settle_65 rfl rfl rfl rfl ?_
          refine e_iload_n C d_Round_settle_68 rfl ?_
          refine e_aload_n C d_Round_settle_69 rfl ?_
          refine e_getI C 21 (k := 0) in_Round g122 g123 d_Round_settle_70 rfl rfl rfl rfl ?_
          refine e_imul C d_Round_settle_73 ?_
          refine e_iload C d_Round_settle_74 rfl ?_
          refine e_iadd C d_Round_settle_76 ?_
          refine e_iconst C d_Round_settle_77 (v := 0) (by decide) ?_
          refine e_zast C 22 1 d_Round_settle_78 rfl rfl (s * wd + wfh wd h0 k) (by show nI s * v 7 + _ = _; rw [h.2.1, pk_mul, nI_add]) hlt (by omega) rfl ?_
          refine e_iinc C d_Round_settle_79 rfl (nI_1 k) rfl ?_
          refine e_goto C d_Round_settle_82 (tgt := 18) (by decide) ?_
          exact e_lv2 (ih (k + 1) (upd g (s * wd + wfh wd h0 k) 0) (by omega) (by rw [← hf]; simp [rndS, if_neg hne, hl2])) rfl
      refine e_iload C d_Round_settle_18 rfl ?_
      refine e_aload_n C d_Round_settle_20 rfl ?_
      refine e_getI C 21 (k := 0) in_Round g122 g123 d_Round_settle_21 rfl rfl rfl rfl ?_
      refine e_top (show _ = nI wd from h.2.1) ?_
      refine e_icmp_ge C d_Round_settle_24 (tgt := 85) (by decide) (fun h24 => ?_) (fun h24 => ?_)
      · exact absurd h24 (nI_ge (by omega) (by omega))
      · skip
        refine e_aload_n C d_Round_settle_27 rfl ?_
        refine e_iload_n C d_Round_settle_28 rfl ?_
        refine e_iload C d_Round_settle_29 rfl ?_
        refine e_cVi C hR 21 (k_Round_wayFromHand (f := up2 f 22 g) h hs hh0 (show k < wd by omega) hh) g534 g7 g531 g533 (gt_sel 8 (by decide +kernel) (by decide +kernel)) d_Round_settle_31 rfl ey_Round_wayFromHand rfl rfl rfl rfl ⟨Nat.zero_le _, Nat.zero_le _⟩ ?_
        refine e_istore C d_Round_settle_34 rfl ?_
        refine e_iload C d_Round_settle_36 rfl ?_
        refine e_iload_n C d_Round_settle_38 rfl ?_
        refine e_icmp_ne C d_Round_settle_39 (tgt := 50) (by decide) (fun h39 => ?_) (fun h39 => ?_)
        · rw [nI_eq (by omega) (by omega)] at h39
          exact e_lv2 (stepL (fun z => h39 z.1)) rfl
        · rw [nI_eq (by omega) (by omega)] at h39
          refine e_iload C d_Round_settle_42 rfl ?_
          refine e_if_ne C d_Round_settle_44 (tgt := 50) (by decide) (fun h44 => ?_) (fun h44 => ?_)
          · have hm2 : mkd f wd s w = true := by simp [mkd]; exact h44
            exact e_lv2 (stepL (fun z => by rw [hm2] at z; exact absurd z.2 (by decide))) rfl
          · have hm2 : mkd f wd s w = false := by simp [mkd]; exact h44
            refine e_goto C d_Round_settle_47 (tgt := 85) (by decide) ?_
            refine settle_end C E h hs hw rfl rfl rfl ⟨rfl, ?_⟩
            rw [← hf]
            simp only [rndS, if_pos (⟨h39, hm2⟩ : wfh wd h0 k = w ∧ mkd f wd s w = false)]
  refine e_eq (ws' := wR G a v (up2 f 22 (f 22)) (S * wd) S V) rfl ?_
  exact e_lv2 (L wd 0 (f 22) (by omega) rfl) rfl
end RoundRows
