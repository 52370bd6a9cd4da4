/-! THROWS: the class's methods, where they throw -/
section THR2
variable {l : Launch} {G : EG} {a : Nat → Nat} {c : CS} {S wd V kd n z lc : Nat} {ws wr : va_W}
set_option maxRecDepth 100000 in
theorem t_C_access (hf : l.flags = pinnedFlags ++ [noTraceFlag]) {b x p wt : Int32} {o : Nat} (hp : p < 0 ∨ ¬ p < 4) : Cth l G y_C_access c_C_access 4 (some .int) (rc 6 1 6 90) [.ref o, .int x, .int p, .int wt] ws "java/lang/IndexOutOfBoundsException" := by
  refine Cth.of rfl rfl (fun X C E hR hl => ?_)
  refine e_iload_n C d_C_access_0 rfl ?_
  refine e_cSi C hR (k_C_isNoPart1 hp) g382 g1 g380 g381 d_C_access_1 rfl ey_C_isNoPart rfl rfl ⟨Nat.zero_le _, Nat.zero_le _⟩ ?_
  refine e_if_eq C d_C_access_4 (tgt := 17) (by decide) (fun h4 => ?_) (fun h4 => ?_)
  · exact absurd h4 (by decide)
  · skip
    exact e_throw C E (by rw [hl]; exact hf) g383 g384 g18 tA_IOOBE (by decide) (tx := "no such part") (by decide) d_C_access_7 d_C_access_10 d_C_access_11 d_C_access_13 d_C_access_16 (Nat.le_refl _) (Nat.le_refl _) (by rw [hR]; rfl)
set_option maxRecDepth 100000 in
theorem t_C_ask (hf : l.flags = pinnedFlags ++ [noTraceFlag]) {x p : Int32} {o : Nat} (hp : p < 0 ∨ ¬ p < 4) : Cth l G y_C_ask c_C_ask 4 (some .int) (rc 6 1 6 90) [.ref o, .int x, .int p] ws "java/lang/IndexOutOfBoundsException" := by
  refine Cth.of rfl rfl (fun X C E hR hl => ?_)
  refine e_iload_n C d_C_ask_0 rfl ?_
  refine e_cSi C hR (k_C_isNoPart1 hp) g382 g1 g380 g381 d_C_ask_1 rfl ey_C_isNoPart rfl rfl ⟨Nat.zero_le _, Nat.zero_le _⟩ ?_
  refine e_if_eq C d_C_ask_4 (tgt := 17) (by decide) (fun h4 => ?_) (fun h4 => ?_)
  · exact absurd h4 (by decide)
  · skip
    exact e_throw C E (by rw [hl]; exact hf) g383 g384 g18 tA_IOOBE (by decide) (tx := "no such part") (by decide) d_C_ask_7 d_C_ask_10 d_C_ask_11 d_C_ask_13 d_C_ask_16 (Nat.le_refl _) (Nat.le_refl _) (by rw [hR]; rfl)
set_option maxRecDepth 100000 in
theorem t_C_answered (hf : l.flags = pinnedFlags ++ [noTraceFlag]) {d : Nat} (hd : c.1 13 = nI d) {k w : Int32} (h : k < 0 ∨ nI d ≤ k ∨ w < 0 ∨ ¬ w ≤ 1) : Cth l G y_C_answered c_C_answered 3 (some .int) (rc 6 1 6 90) [.ref (a 0), .int k, .int w] (cF G a c.1 c.2 n V wr) "java/lang/IndexOutOfBoundsException" := by
  refine Cth.of rfl rfl (fun X C E hR hl => ?_)
  refine e_iload_n C d_C_answered_0 rfl ?_
  refine e_if_lt C d_C_answered_1 (tgt := 24) (by decide) (fun h1 => ?_) (fun h1 => ?_)
  · skip
    exact e_throw C E (by rw [hl]; exact hf) g383 g384 g18 tA_IOOBE (by decide) (tx := "no such ask or what") (by decide) d_C_answered_24 d_C_answered_27 d_C_answered_28 d_C_answered_30 d_C_answered_33 (Nat.le_refl _) (Nat.le_refl _) (by rw [hR]; rfl)
  · skip
    refine e_iload_n C d_C_answered_4 rfl ?_
    refine e_aload_n C d_C_answered_5 rfl ?_
    refine e_get C 0 (k := 3) in_C g267 d_C_answered_6 rfl rfl rfl rfl ?_
    refine e_get C 11 (k := 7) in_Asks g227 d_C_answered_9 rfl rfl rfl rfl ?_
    refine e_top hd ?_
    refine e_icmp_ge C d_C_answered_12 (tgt := 24) (by decide) (fun h12 => ?_) (fun h12 => ?_)
    · skip
      exact e_throw C E (by rw [hl]; exact hf) g383 g384 g18 tA_IOOBE (by decide) (tx := "no such ask or what") (by decide) d_C_answered_24 d_C_answered_27 d_C_answered_28 d_C_answered_30 d_C_answered_33 (Nat.le_refl _) (Nat.le_refl _) (by rw [hR]; rfl)
    · skip
      refine e_iload_n C d_C_answered_15 rfl ?_
      refine e_if_lt C d_C_answered_16 (tgt := 24) (by decide) (fun h16 => ?_) (fun h16 => ?_)
      · skip
        exact e_throw C E (by rw [hl]; exact hf) g383 g384 g18 tA_IOOBE (by decide) (tx := "no such ask or what") (by decide) d_C_answered_24 d_C_answered_27 d_C_answered_28 d_C_answered_30 d_C_answered_33 (Nat.le_refl _) (Nat.le_refl _) (by rw [hR]; rfl)
      · skip
        refine e_iload_n C d_C_answered_19 rfl ?_
        refine e_iconst C d_C_answered_20 (v := 1) (by decide) ?_
        refine e_icmp_le C d_C_answered_21 (tgt := 34) (by decide) (fun h21 => ?_) (fun h21 => ?_)
        · rcases h with h | h | h | h
          · exact absurd h h1
          · exact absurd h h12
          · exact absurd h h16
          · exact absurd h21 h
        · skip
          exact e_throw C E (by rw [hl]; exact hf) g383 g384 g18 tA_IOOBE (by decide) (tx := "no such ask or what") (by decide) d_C_answered_24 d_C_answered_27 d_C_answered_28 d_C_answered_30 d_C_answered_33 (Nat.le_refl _) (Nat.le_refl _) (by rw [hR]; rfl)
set_option maxRecDepth 100000 in
theorem t_C_way (hf : l.flags = pinnedFlags ++ [noTraceFlag]) (hC : CD c.1 S wd) {s w q : Int32} (h : s < 0 ∨ nI S ≤ s ∨ w < 0 ∨ ¬ w < nI wd) : Cth l G y_C_way c_C_way 5 (some .int) (rc 6 1 6 90) [.ref (a 0), .int s, .int w, .int q] (cF G a c.1 c.2 n V wr) "java/lang/IndexOutOfBoundsException" := by
  refine Cth.of rfl rfl (fun X C E hR hl => ?_)
  refine e_iload_n C d_C_way_0 rfl ?_
  refine e_if_lt C d_C_way_1 (tgt := 30) (by decide) (fun h1 => ?_) (fun h1 => ?_)
  · skip
    exact e_throw C E (by rw [hl]; exact hf) g383 g384 g18 tA_IOOBE (by decide) (tx := "no such way") (by decide) d_C_way_30 d_C_way_33 d_C_way_34 d_C_way_36 d_C_way_39 (Nat.le_refl _) (Nat.le_refl _) (by rw [hR]; rfl)
  · skip
    refine e_iload_n C d_C_way_4 rfl ?_
    refine e_aload_n C d_C_way_5 rfl ?_
    refine e_get C 0 (k := 0) in_C g264 d_C_way_6 rfl rfl rfl rfl ?_
    refine e_get C 1 (k := 0) in_Ways g41 d_C_way_9 rfl rfl rfl rfl ?_
    refine e_top hC.1 ?_
    refine e_icmp_ge C d_C_way_12 (tgt := 30) (by decide) (fun h12 => ?_) (fun h12 => ?_)
    · skip
      exact e_throw C E (by rw [hl]; exact hf) g383 g384 g18 tA_IOOBE (by decide) (tx := "no such way") (by decide) d_C_way_30 d_C_way_33 d_C_way_34 d_C_way_36 d_C_way_39 (Nat.le_refl _) (Nat.le_refl _) (by rw [hR]; rfl)
    · skip
      refine e_iload_n C d_C_way_15 rfl ?_
      refine e_if_lt C d_C_way_16 (tgt := 30) (by decide) (fun h16 => ?_) (fun h16 => ?_)
      · skip
        exact e_throw C E (by rw [hl]; exact hf) g383 g384 g18 tA_IOOBE (by decide) (tx := "no such way") (by decide) d_C_way_30 d_C_way_33 d_C_way_34 d_C_way_36 d_C_way_39 (Nat.le_refl _) (Nat.le_refl _) (by rw [hR]; rfl)
      · skip
        refine e_iload_n C d_C_way_19 rfl ?_
        refine e_aload_n C d_C_way_20 rfl ?_
        refine e_get C 0 (k := 0) in_C g264 d_C_way_21 rfl rfl rfl rfl ?_
        refine e_get C 1 (k := 1) in_Ways g43 d_C_way_24 rfl rfl rfl rfl ?_
        refine e_top hC.2.1 ?_
        refine e_icmp_lt C d_C_way_27 (tgt := 40) (by decide) (fun h27 => ?_) (fun h27 => ?_)
        · rcases h with h | h | h | h
          · exact absurd h h1
          · exact absurd h h12
          · exact absurd h h16
          · exact absurd h27 h
        · skip
          exact e_throw C E (by rw [hl]; exact hf) g383 g384 g18 tA_IOOBE (by decide) (tx := "no such way") (by decide) d_C_way_30 d_C_way_33 d_C_way_34 d_C_way_36 d_C_way_39 (Nat.le_refl _) (Nat.le_refl _) (by rw [hR]; rfl)
set_option maxRecDepth 100000 in
theorem t_C_way2 (hf : l.flags = pinnedFlags ++ [noTraceFlag]) (hC : CD c.1 S wd) {s w : Nat} {q : Int32} (hs : s < S) (hw : w < wd) (h : q.toInt < 0 ∨ 4 < q.toInt) : Cth l G y_C_way c_C_way 5 (some .int) (rc 6 1 6 90) [.ref (a 0), .int (nI s), .int (nI w), .int q] (cF G a c.1 c.2 n V wr) "java/lang/IndexOutOfBoundsException" := by
  refine Cth.of rfl rfl (fun X C E hR hl => ?_)
  have hw8 := hC.2.2.2.2
  have hS := hC.S16
  refine e_iload_n C d_C_way_0 rfl ?_
  refine e_if_lt C d_C_way_1 (tgt := 30) (by decide) (fun h1 => ?_) (fun h1 => ?_)
  · exact absurd h1 (nI_pos (by omega))
  · skip
    refine e_iload_n C d_C_way_4 rfl ?_
    refine e_aload_n C d_C_way_5 rfl ?_
    refine e_get C 0 (k := 0) in_C g264 d_C_way_6 rfl rfl rfl rfl ?_
    refine e_get C 1 (k := 0) in_Ways g41 d_C_way_9 rfl rfl rfl rfl ?_
    refine e_top hC.1 ?_
    refine e_icmp_ge C d_C_way_12 (tgt := 30) (by decide) (fun h12 => ?_) (fun h12 => ?_)
    · exact absurd h12 (nI_ge (by omega) (by omega))
    · skip
      refine e_iload_n C d_C_way_15 rfl ?_
      refine e_if_lt C d_C_way_16 (tgt := 30) (by decide) (fun h16 => ?_) (fun h16 => ?_)
      · exact absurd h16 (nI_pos (by omega))
      · skip
        refine e_iload_n C d_C_way_19 rfl ?_
        refine e_aload_n C d_C_way_20 rfl ?_
        refine e_get C 0 (k := 0) in_C g264 d_C_way_21 rfl rfl rfl rfl ?_
        refine e_get C 1 (k := 1) in_Ways g43 d_C_way_24 rfl rfl rfl rfl ?_
        refine e_top hC.2.1 ?_
        refine e_icmp_lt C d_C_way_27 (tgt := 40) (by decide) (fun h27 => ?_) (fun h27 => ?_)
        · skip
          refine e_iload_n C d_C_way_40 rfl ?_
          refine e_aload_n C d_C_way_41 rfl ?_
          refine e_get C 0 (k := 0) in_C g264 d_C_way_42 rfl rfl rfl rfl ?_
          refine e_get C 1 (k := 1) in_Ways g43 d_C_way_45 rfl rfl rfl rfl ?_
          refine e_imul C d_C_way_48 ?_
          refine e_iload_n C d_C_way_49 rfl ?_
          refine e_iadd C d_C_way_50 ?_
          refine e_istore C d_C_way_51 rfl ?_
          refine e_iload_n C d_C_way_53 rfl ?_
          refine e_tableOut C d_C_way_54 h (tgt := 159) (by decide) ?_
          exact e_throw C E (by rw [hl]; exact hf) g383 g384 g18 tA_IOOBE (by decide) (tx := "no such what") (by decide) d_C_way_159 d_C_way_162 d_C_way_163 d_C_way_165 d_C_way_168 (Nat.le_refl _) (Nat.le_refl _) (by rw [hR]; rfl)
        · skip
          exact e_throw C E (by rw [hl]; exact hf) g383 g384 g18 tA_IOOBE (by decide) (tx := "no such way") (by decide) d_C_way_30 d_C_way_33 d_C_way_34 d_C_way_36 d_C_way_39 (Nat.le_refl _) (Nat.le_refl _) (by rw [hR]; rfl)
set_option maxRecDepth 100000 in
theorem t_C_caught (hf : l.flags = pinnedFlags ++ [noTraceFlag]) (hz : RD c.1 V z) {k q : Int32} (h : k < 0 ∨ ¬ k < nI z) : Cth l G y_C_caught c_C_caught 3 (some .int) (rc 6 1 6 90) [.ref (a 0), .int k, .int q] (cF G a c.1 c.2 n V wr) "java/lang/IndexOutOfBoundsException" := by
  refine Cth.of rfl rfl (fun X C E hR hl => ?_)
  refine e_iload_n C d_C_caught_0 rfl ?_
  refine e_if_lt C d_C_caught_1 (tgt := 15) (by decide) (fun h1 => ?_) (fun h1 => ?_)
  · skip
    exact e_throw C E (by rw [hl]; exact hf) g383 g384 g18 tA_IOOBE (by decide) (tx := "no such catching row") (by decide) d_C_caught_15 d_C_caught_18 d_C_caught_19 d_C_caught_21 d_C_caught_24 (Nat.le_refl _) (Nat.le_refl _) (by rw [hR]; rfl)
  · skip
    refine e_iload_n C d_C_caught_4 rfl ?_
    refine e_aload_n C d_C_caught_5 rfl ?_
    refine e_get C 0 (k := 1) in_C g265 d_C_caught_6 rfl rfl rfl rfl ?_
    refine e_get C 7 (k := 4) in_Rows g90 d_C_caught_9 rfl rfl rfl rfl ?_
    refine e_top hz.2.1 ?_
    refine e_icmp_lt C d_C_caught_12 (tgt := 25) (by decide) (fun h12 => ?_) (fun h12 => ?_)
    · rcases h with h | h
      · exact absurd h h1
      · exact absurd h12 h
    · skip
      exact e_throw C E (by rw [hl]; exact hf) g383 g384 g18 tA_IOOBE (by decide) (tx := "no such catching row") (by decide) d_C_caught_15 d_C_caught_18 d_C_caught_19 d_C_caught_21 d_C_caught_24 (Nat.le_refl _) (Nat.le_refl _) (by rw [hR]; rfl)
set_option maxRecDepth 100000 in
theorem t_C_caught2 (hf : l.flags = pinnedFlags ++ [noTraceFlag]) (hz : RD c.1 V z) {k : Nat} {q : Int32} (hk : k < z) (h : q.toInt < 0 ∨ 2 < q.toInt) : Cth l G y_C_caught c_C_caught 3 (some .int) (rc 6 1 6 90) [.ref (a 0), .int (nI k), .int q] (cF G a c.1 c.2 n V wr) "java/lang/IndexOutOfBoundsException" := by
  refine Cth.of rfl rfl (fun X C E hR hl => ?_)
  have hz2 := hz.2.2
  refine e_iload_n C d_C_caught_0 rfl ?_
  refine e_if_lt C d_C_caught_1 (tgt := 15) (by decide) (fun h1 => ?_) (fun h1 => ?_)
  · exact absurd h1 (nI_pos (by omega))
  · skip
    refine e_iload_n C d_C_caught_4 rfl ?_
    refine e_aload_n C d_C_caught_5 rfl ?_
    refine e_get C 0 (k := 1) in_C g265 d_C_caught_6 rfl rfl rfl rfl ?_
    refine e_get C 7 (k := 4) in_Rows g90 d_C_caught_9 rfl rfl rfl rfl ?_
    refine e_top hz.2.1 ?_
    refine e_icmp_lt C d_C_caught_12 (tgt := 25) (by decide) (fun h12 => ?_) (fun h12 => ?_)
    · skip
      refine e_iload_n C d_C_caught_25 rfl ?_
      refine e_tableOut C d_C_caught_26 h (tgt := 82) (by decide) ?_
      exact e_throw C E (by rw [hl]; exact hf) g383 g384 g18 tA_IOOBE (by decide) (tx := "no such what") (by decide) d_C_caught_82 d_C_caught_85 d_C_caught_86 d_C_caught_88 d_C_caught_91 (Nat.le_refl _) (Nat.le_refl _) (by rw [hR]; rfl)
    · skip
      exact e_throw C E (by rw [hl]; exact hf) g383 g384 g18 tA_IOOBE (by decide) (tx := "no such catching row") (by decide) d_C_caught_15 d_C_caught_18 d_C_caught_19 d_C_caught_21 d_C_caught_24 (Nat.le_refl _) (Nat.le_refl _) (by rw [hR]; rfl)
set_option maxRecDepth 100000 in
theorem t_C_next (hf : l.flags = pinnedFlags ++ [noTraceFlag]) (hC : CD c.1 S wd) {s : Int32} (h : s < 0 ∨ ¬ s < nI S) : Cth l G y_C_next c_C_next 2 (some .int) (rc 6 1 6 90) [.ref (a 0), .int s] (cF G a c.1 c.2 n V wr) "java/lang/IndexOutOfBoundsException" := by
  refine Cth.of rfl rfl (fun X C E hR hl => ?_)
  refine e_iload_n C d_C_next_0 rfl ?_
  refine e_if_lt C d_C_next_1 (tgt := 15) (by decide) (fun h1 => ?_) (fun h1 => ?_)
  · skip
    exact e_throw C E (by rw [hl]; exact hf) g383 g384 g18 tA_IOOBE (by decide) (tx := "no such set") (by decide) d_C_next_15 d_C_next_18 d_C_next_19 d_C_next_21 d_C_next_24 (Nat.le_refl _) (Nat.le_refl _) (by rw [hR]; rfl)
  · skip
    refine e_iload_n C d_C_next_4 rfl ?_
    refine e_aload_n C d_C_next_5 rfl ?_
    refine e_get C 0 (k := 0) in_C g264 d_C_next_6 rfl rfl rfl rfl ?_
    refine e_get C 1 (k := 0) in_Ways g41 d_C_next_9 rfl rfl rfl rfl ?_
    refine e_top hC.1 ?_
    refine e_icmp_lt C d_C_next_12 (tgt := 25) (by decide) (fun h12 => ?_) (fun h12 => ?_)
    · rcases h with h | h
      · exact absurd h h1
      · exact absurd h12 h
    · skip
      exact e_throw C E (by rw [hl]; exact hf) g383 g384 g18 tA_IOOBE (by decide) (tx := "no such set") (by decide) d_C_next_15 d_C_next_18 d_C_next_19 d_C_next_21 d_C_next_24 (Nat.le_refl _) (Nat.le_refl _) (by rw [hR]; rfl)
set_option maxRecDepth 100000 in
theorem t_C_misses (hf : l.flags = pinnedFlags ++ [noTraceFlag]) {o : Nat} {q : Int32} (h : q < 1 ∨ ¬ q ≤ 64) : Cth l G y_C_misses c_C_misses 2 (some .int) (rc 6 1 6 90) [.ref o, .int q] ws "java/lang/IllegalArgumentException" := by
  refine Cth.of rfl rfl (fun X C E hR hl => ?_)
  refine e_iload_n C d_C_misses_0 rfl ?_
  refine e_iconst C d_C_misses_1 (v := 1) (by decide) ?_
  refine e_icmp_lt C d_C_misses_2 (tgt := 11) (by decide) (fun h2 => ?_) (fun h2 => ?_)
  · skip
    exact e_throw C E (by rw [hl]; exact hf) g715 g716 g22 tA_IAE (by decide) (tx := "a store has 1 to 64 lines") (by decide) d_C_misses_11 d_C_misses_14 d_C_misses_15 d_C_misses_17 d_C_misses_20 (Nat.le_refl _) (Nat.le_refl _) (by rw [hR]; rfl)
  · skip
    refine e_iload_n C d_C_misses_5 rfl ?_
    refine e_bipush C d_C_misses_6 (v := 64) (by decide) ?_
    refine e_icmp_le C d_C_misses_8 (tgt := 21) (by decide) (fun h8 => ?_) (fun h8 => ?_)
    · rcases h with h | h
      · exact absurd h h2
      · exact absurd h8 h
    · skip
      exact e_throw C E (by rw [hl]; exact hf) g715 g716 g22 tA_IAE (by decide) (tx := "a store has 1 to 64 lines") (by decide) d_C_misses_11 d_C_misses_14 d_C_misses_15 d_C_misses_17 d_C_misses_20 (Nat.le_refl _) (Nat.le_refl _) (by rw [hR]; rfl)
set_option maxRecDepth 100000 in
theorem t_C_ask2 (hf : l.flags = pinnedFlags ++ [noTraceFlag]) (h : CI S wd V kd c) (hA : AD c.1 z lc) (x : Int32) {p : Nat} (hp : p < 4) (hh : hitB S wd c x p = false) (hr : roomA c.2 z lc x = false) : Cth l G y_C_ask c_C_ask 4 (some .int) (rc 6 1 6 90) [.ref (a 0), .int x, .int (nI p)] (wK G a c S wd V kd) "java/lang/UnsupportedOperationException" := by
  refine Cth.of rfl rfl (fun X C E hR hl => ?_)
  have hC := h.1.1
  have hn1 := hC.n128
  have hsn := sN_lt hC x
  have hb2 : sN S x * wd + wd ≤ S * wd := by
    have := slot_lt (wd := wd) (w := wd - 1) hsn (by have := hC.2.2.2.2; omega)
    have := hC.2.2.2.2
    omega
  have wait : EW X G 4 0 0 57 [(0, .ref (a 0)), (1, .int x), (2, .int (nI p))] [] (wK G a c S wd V kd) := by
    refine e_aload_n C d_C_ask_57 rfl ?_
    refine e_get C 0 (k := 3) in_C g267 d_C_ask_58 rfl rfl rfl rfl ?_
    refine e_iload_n C d_C_ask_61 rfl ?_
    refine e_cVi C hR 11 (k_Asks_hasRoomFor hA x) g621 g12 g618 g619 g620 d_C_ask_62 rfl ey_Asks_hasRoomFor rfl rfl rfl rfl ⟨Nat.zero_le _, Nat.zero_le _⟩ ?_
    refine e_if_ne C d_C_ask_65 (tgt := 78) (by decide) (fun h65 => ?_) (fun h65 => ?_)
    · rw [bI_n, hr] at h65
      cases h65
    · skip
      exact e_throw C E (by rw [hl]; exact hf) g626 g627 g20 tA_UOE (by decide) (tx := "too many asks or lines wait") (by decide) d_C_ask_68 d_C_ask_71 d_C_ask_72 d_C_ask_74 d_C_ask_77 (Nat.le_refl _) (Nat.le_refl _) (by rw [hR]; rfl)
  unfold hitB fdW at hh
  refine e_iload_n C d_C_ask_0 rfl ?_
  refine e_cSi C hR (k_C_isNoPart0 hp) g382 g1 g380 g381 d_C_ask_1 rfl ey_C_isNoPart rfl rfl ⟨Nat.zero_le _, Nat.zero_le _⟩ ?_
  refine e_if_eq C d_C_ask_4 (tgt := 17) (by decide) (fun h4 => ?_) (fun h4 => ?_)
  · skip
    refine e_aload_n C d_C_ask_17 rfl ?_
    refine e_get C 0 (k := 0) in_C g264 d_C_ask_18 rfl rfl rfl rfl ?_
    refine e_iload_n C d_C_ask_21 rfl ?_
    refine e_cVi C hR 1 (k_Ways_find hC x) g312 g3 g309 g310 g311 d_C_ask_22 rfl ey_Ways_find rfl rfl rfl rfl ⟨Nat.zero_le _, Nat.zero_le _⟩ ?_
    refine e_istore_n C d_C_ask_25 rfl ?_
    refine e_iload_n C d_C_ask_26 rfl ?_
    refine e_iconst C d_C_ask_27 (v := (-1)) (by decide) ?_
    refine e_icmp_eq C d_C_ask_28 (tgt := 57) (by decide) (fun h28 => ?_) (fun h28 => ?_)
    · exact e_lv2 wait rfl
    · rw [oI_n1 (fb (by omega))] at h28
      obtain ⟨j, hj⟩ := Option.ne_none_iff_exists'.mp h28
      have hj2 := fst1_some hj
      rw [hj] at hh ⊢
      have hh : c.2 4 j &&& bitI p = 0 := by simpa using hh
      refine e_aload_n C d_C_ask_31 rfl ?_
      refine e_get C 0 (k := 0) in_C g264 d_C_ask_32 rfl rfl rfl rfl ?_
      refine e_get C 1 (k := 5) in_Ways g51 d_C_ask_35 rfl rfl rfl rfl ?_
      refine e_iload_n C d_C_ask_38 rfl ?_
      refine e_iald C 4 0 d_C_ask_39 rfl rfl j rfl (by omega) (by omega) ?_
      refine e_iconst C d_C_ask_40 (v := 1) (by decide) ?_
      refine e_iload_n C d_C_ask_41 rfl ?_
      refine e_ishl C d_C_ask_42 ?_
      refine e_iand C d_C_ask_43 ?_
      refine e_if_eq C d_C_ask_44 (tgt := 57) (by decide) (fun h44 => ?_) (fun h44 => ?_)
      · exact e_lv2 wait rfl
      · exact absurd hh h44
  · exact absurd rfl h4
end THR2
