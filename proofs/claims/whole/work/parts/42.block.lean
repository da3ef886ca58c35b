/-! A BLOCK, BUNDLE AFTER BUNDLE, in the abstract -/
theorem fs_sl {P : gP} {b e : Nat} {ty : Nat → Nat} {m : Nat} {s0 : FS} (J : Nat) : ∀ j, j < J → (fsN P b e ty m J s0).2.2.2 j = mI 4 ∨ ∃ i, s0.1 ≤ i ∧ i < (fsN P b e ty m J s0).1 ∧ (fsN P b e ty m J s0).2.2.2 j = nI i := by
  induction J with
  | zero => exact fun j hj => absurd hj (Nat.not_lt_zero j)
  | succ J ih =>
    intro j hj
    have hle := fsN_le (P := P) (b := b) (e := e) (ty := ty) (m := m) J (s := s0)
    show (fs1 P b e ty m J (fsN P b e ty m J s0)).2.2.2 j = mI 4 ∨ ∃ i, s0.1 ≤ i ∧ i < (fs1 P b e ty m J (fsN P b e ty m J s0)).1 ∧ (fs1 P b e ty m J (fsN P b e ty m J s0)).2.2.2 j = nI i
    by_cases c : tkP P b e ty J (fsN P b e ty m J s0)
    · rw [fs1_t c]
      by_cases ej : j = J
      · exact Or.inr ⟨(fsN P b e ty m J s0).1, hle, Nat.lt_succ_self _, if_pos ej⟩
      · rcases ih j (by omega) with h | ⟨i, h1, h2, h3⟩
        · exact Or.inl (Eq.trans (if_neg ej) h)
        · exact Or.inr ⟨i, h1, Nat.lt_succ_of_lt h2, Eq.trans (if_neg ej) h3⟩
    · rw [fs1_f c]
      by_cases ej : j = J
      · exact Or.inl (if_pos ej)
      · rcases ih j (by omega) with h | ⟨i, h1, h2, h3⟩
        · exact Or.inl (Eq.trans (if_neg ej) h)
        · exact Or.inr ⟨i, h1, h2, Eq.trans (if_neg ej) h3⟩
theorem fs_slV {P : gP} {b e B : Nat} {ty : Nat → Nat} {m : Nat} {s0 : FS} (he : e ≤ 40) (hB : B + 3 < 1000) (hok : okFS b e B s0) : slV (fsN P b e ty m 3 s0).2.2.2 (fsN P b e ty m 3 s0).2.2.1 := by
  intro j hj
  obtain ⟨o1, o2, o3, o4, o5⟩ := okFS_N (P := P) (ty := ty) (m := m) 3 hok
  rcases fs_sl (P := P) (b := b) (e := e) (ty := ty) (m := m) (s0 := s0) 3 j hj with h | ⟨i, h1, h2, h3⟩
  · exact Or.inl h
  · have hb := hok.1
    have := o5 i (by omega) h2
    exact Or.inr ⟨i, by omega, h3, by omega⟩
/-- the slots' state, the places, the cycles -/
abbrev AB := FS × gP × Nat
/-- the template of the bundle that follows -/
noncomputable def tmB (P : gP) (b e : Nat) (T : Nat → Nat → Nat) (M : Nat → Nat) (tc : Nat) (a : AB) : Nat := (chF P b e T M a.1 tc).getD 0
noncomputable def fsB (P : gP) (b e : Nat) (T : Nat → Nat → Nat) (M : Nat → Nat) (tc : Nat) (a : AB) : FS := fsN P b e (T (tmB P b e T M tc a)) (M (tmB P b e T M tc a)) 3 a.1
/-- one bundle, the c-th of all -/
noncomputable def ab1 (P : gP) (b e : Nat) (T : Nat → Nat → Nat) (M : Nat → Nat) (tc c : Nat) (a : AB) : AB := (fsB P b e T M tc a, plN c (fsB P b e T M tc a).2.2.2 (fsB P b e T M tc a).2.2.1 a.2.1 3, cyN P (fsB P b e T M tc a).2.2.2 (fsB P b e T M tc a).2.2.1 a.2.2 3)
noncomputable def abN (P : gP) (b e : Nat) (T : Nat → Nat → Nat) (M : Nat → Nat) (tc c0 : Nat) (a : AB) : Nat → AB
  | 0 => a
  | k + 1 => ab1 P b e T M tc (c0 + k) (abN P b e T M tc c0 a k)
theorem abN_ok {P : gP} {b e : Nat} {T : Nat → Nat → Nat} {M : Nat → Nat} {tc c0 : Nat} {a : AB} (h : okFS b e 0 a.1) (k : Nat) : okFS b e (3 * k) (abN P b e T M tc c0 a k).1 := by
  induction k with
  | zero => exact h
  | succ k ih => exact okFS_N 3 ih
theorem abN_cy {P : gP} {b e : Nat} {T : Nat → Nat → Nat} {M : Nat → Nat} {tc c0 : Nat} {a : AB} (he : e ≤ 40) (h : okFS b e 0 a.1) (hc : a.2.2 < 2000) (k : Nat) (hk : k ≤ 60) : (abN P b e T M tc c0 a k).2.2 < 2000 := by
  induction k with
  | zero => exact hc
  | succ k ih => exact cyN_lt (fs_slV he (by omega) (abN_ok h k)) (ih (by omega)) 3 (Nat.le_refl 3)
/-- no bundle follows / none can follow -/
def stpP (e : Nat) (c : Nat) (a : AB) : Prop := 60 ≤ c ∨ e ≤ a.1.1
def stkP (P : gP) (b e : Nat) (T : Nat → Nat → Nat) (M : Nat → Nat) (tc : Nat) (a : AB) : Prop := tc = 0 ∨ ((fsB P b e T M tc a).1 = a.1.1 ∧ (fsB P b e T M tc a).2.1 = a.1.2.1)
/-- the first place where the bundles end -/
def endP (P : gP) (b e : Nat) (T : Nat → Nat → Nat) (M : Nat → Nat) (tc c0 : Nat) (a : AB) (k : Nat) : Prop := stpP e (c0 + k) (abN P b e T M tc c0 a k) ∨ stkP P b e T M tc (abN P b e T M tc c0 a k)
theorem end_uniq {P : gP} {b e : Nat} {T : Nat → Nat → Nat} {M : Nat → Nat} {tc c0 : Nat} {a : AB} {k l : Nat} (h1 : endP P b e T M tc c0 a k) (h2 : ∀ j, j < k → ¬ endP P b e T M tc c0 a j) (h3 : endP P b e T M tc c0 a l) (h4 : ∀ j, j < l → ¬ endP P b e T M tc c0 a j) : k = l := by
  rcases Nat.lt_trichotomy k l with h | h | h
  · exact absurd h1 (h4 k h)
  · exact h
  · exact absurd h3 (h2 l h)
