/-! A BUNDLE MOVES THE GROUP BY ITS MARKS -/
theorem fs1_grp {P : gP} {b e : Nat} {ty : Nat → Nat} {m j : Nat} {s : FS} : (fs1 P b e ty m j s).2.1 = s.2.1 + bt m j := by
  by_cases c : tkP P b e ty j s
  · rw [fs1_t c]
  · rw [fs1_f c]
theorem fsN_grp {P : gP} {b e : Nat} {ty : Nat → Nat} {m : Nat} {s : FS} : (fsN P b e ty m 3 s).2.1 = s.2.1 + bc m := by
  have h0 : (fsN P b e ty m 1 s).2.1 = s.2.1 + bt m 0 := fs1_grp
  have h1 : (fsN P b e ty m 2 s).2.1 = (fsN P b e ty m 1 s).2.1 + bt m 1 := fs1_grp
  have h2 : (fsN P b e ty m 3 s).2.1 = (fsN P b e ty m 2 s).2.1 + bt m 2 := fs1_grp
  unfold bc
  omega
theorem bc_0 {m : Nat} (h : m < 8) : bc m = 0 ↔ m = 0 := by
  rcases (show m = 0 ∨ m = 1 ∨ m = 2 ∨ m = 3 ∨ m = 4 ∨ m = 5 ∨ m = 6 ∨ m = 7 by omega) with rfl | rfl | rfl | rfl | rfl | rfl | rfl | rfl <;> decide
