/-! THE FIRST STATES keep what is kept -/
theorem c0_CD {S wd V kd k : Nat} (hk : k ≤ 4) (hS : S = 2 ^ k) (h1 : 1 ≤ wd) (h8 : wd ≤ 8) : CD (c0S S wd V kd).1 S wd := ⟨rfl, rfl, rfl, ⟨k, hk, hS⟩, h1, h8⟩
theorem c0_RI {S wd V kd : Nat} (h1 : 1 ≤ wd) (hk : kd < 10) : RI S wd kd (c0S S wd V kd) := by
  rcases kd_cases hk with rfl | rfl | rfl | rfl | rfl | rfl | rfl | rfl | rfl | rfl
  · exact ⟨1, by decide, rfl⟩
  · exact fun s _ => ⟨0, h1, rfl⟩
  · rfl
  all_goals trivial
theorem m0_MD {S wd V kd k : Nat} (hk : k ≤ 4) (hS : S = 2 ^ k) (h1 : 1 ≤ wd) (h8 : wd ≤ 8) (hV : V ≤ 4) (h10 : kd < 10) : MD (m0S S wd V kd).1 S wd V kd := ⟨rfl, rfl, rfl, rfl, ⟨k, hk, hS⟩, ⟨h1, h8⟩, hV, h10⟩
theorem nb0 : NB 0 := ⟨0, by decide, rfl⟩
theorem c0_CI {S wd V kd k : Nat} (hk : k ≤ 4) (hS : S = 2 ^ k) (h1 : 1 ≤ wd) (h8 : wd ≤ 8) (hV : V ≤ 4) (h10 : kd < 10) : CI S wd V kd (c0S S wd V kd) :=
  ⟨⟨c0_CD hk hS h1 h8, c0_RI h1 h10, h10⟩, ⟨0, rfl, rfl, Nat.zero_le _, hV⟩, fun _ => nb0, fun _ => nb0⟩
theorem c0_HD {S wd V kd : Nat} : HD (c0S S wd V kd).1 0 := ⟨rfl, by decide⟩
theorem c0_AD {S wd V kd : Nat} : AD (c0S S wd V kd).1 0 0 := ⟨rfl, rfl, by decide, by decide⟩
theorem c0_PT {S wd V kd : Nat} : PT (c0S S wd V kd) := ⟨fun _ => ⟨0, by decide, rfl⟩, fun _ => ⟨0, by decide, rfl⟩⟩
theorem m0_MR {S wd V kd : Nat} (h1 : 1 ≤ wd) (h10 : kd < 10) : MR wd kd (m0S S wd V kd) := by
  rcases kd_cases h10 with rfl | rfl | rfl | rfl | rfl | rfl | rfl | rfl | rfl | rfl
  · exact ⟨1, by decide, rfl⟩
  · exact ⟨fun s _ => ⟨0, h1, rfl⟩, fun _ => Or.inl rfl, fun _ => Or.inl rfl⟩
  all_goals trivial
theorem m0_MI {S wd V kd k : Nat} (hk : k ≤ 4) (hS : S = 2 ^ k) (h1 : 1 ≤ wd) (h8 : wd ≤ 8) (hV : V ≤ 4) (h10 : kd < 10) : MI S wd V kd (m0S S wd V kd) :=
  ⟨m0_MD hk hS h1 h8 hV h10, m0_MR h1 h10, ⟨0, Nat.zero_le _, rfl⟩, ⟨0, by decide, rfl⟩, fun _ => nb0, fun _ => nb0⟩
