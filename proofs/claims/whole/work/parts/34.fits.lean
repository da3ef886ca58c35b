/-! TYPES, STOPS, AND ONE SLOT AFTER THE OTHER -/
theorem cif_o {c d : Prop} : cif c (some (nI 1)) (some (tf d)) = some (tf (c ∨ d)) := by
  by_cases h : c
  · rw [cif_t h, tf_t (Or.inl h)]
  · rw [cif_f h]; exact congrArg some (tf_c ⟨fun a => Or.inr a, fun a => a.elim (fun q => absurd q h) id⟩)
/-- an operation goes into a slot of a type -/
def ftP (o y : Nat) : Prop := (y = 0 ∧ (o ≤ 6 ∨ o = 8 ∨ o = 9)) ∨ (y = 1 ∧ o ≤ 6) ∨ (y = 2 ∧ o = 7) ∨ (y = 3 ∧ 10 ≤ o)
theorem x7_fits (σ : sg) {o y : Nat} (ho : o < 13) (hy : y < 4) : f_X7_fits σ (nI o) (nI y) = some (tf (ftP o y)) := by
  have fin : ∀ {A B : Prop}, (A ↔ B) → some (tf A) = some (tf B) := fun h => congrArg some (tf_c h)
  unfold f_X7_fits J_X7_fits_46
  rcases (show y = 0 ∨ y = 1 ∨ y = 2 ∨ y = 3 by omega) with rfl | rfl | rfl | rfl
  · rw [if_pos (show nI 0 = 0 from rfl)]
    simp (disch := omega) only [neg_nI, l_0, l_1, l_2, l_3, l_4, l_5, l_6, l_7, l_8, l_9, l_10, l_11, l_12, l_13, l_14, l_15, l_16, l_17, l_18, l_19, l_20, l_21, l_22, l_23, l_24, l_25, l_26, l_27, l_28, l_29, l_30, l_31, l_32, l_33, l_34, l_35, l_36, l_37, l_38, l_39, l_40, l_41, l_100, l_160, l_300, l_999, l_1000, l_2000, nI_inj, nI_lei, nI_lti, ite_cif, cif_1, cif_2, cif_o, cif_b]
    exact fin (by unfold ftP; omega)
  · rw [if_neg (show ¬ nI 1 = 0 by decide), if_pos (show nI 1 = 1 from rfl)]
    simp (disch := omega) only [neg_nI, l_0, l_1, l_2, l_3, l_4, l_5, l_6, l_7, l_8, l_9, l_10, l_11, l_12, l_13, l_14, l_15, l_16, l_17, l_18, l_19, l_20, l_21, l_22, l_23, l_24, l_25, l_26, l_27, l_28, l_29, l_30, l_31, l_32, l_33, l_34, l_35, l_36, l_37, l_38, l_39, l_40, l_41, l_100, l_160, l_300, l_999, l_1000, l_2000, nI_inj, nI_lei, nI_lti, ite_cif, cif_1, cif_2, cif_o, cif_b]
    exact fin (by unfold ftP; omega)
  · rw [if_neg (show ¬ nI 2 = 0 by decide), if_neg (show ¬ nI 2 = 1 by decide), if_pos (show nI 2 = 2 from rfl)]
    simp (disch := omega) only [neg_nI, l_0, l_1, l_2, l_3, l_4, l_5, l_6, l_7, l_8, l_9, l_10, l_11, l_12, l_13, l_14, l_15, l_16, l_17, l_18, l_19, l_20, l_21, l_22, l_23, l_24, l_25, l_26, l_27, l_28, l_29, l_30, l_31, l_32, l_33, l_34, l_35, l_36, l_37, l_38, l_39, l_40, l_41, l_100, l_160, l_300, l_999, l_1000, l_2000, nI_inj, nI_lei, nI_lti, ite_cif, cif_1, cif_2, cif_o, cif_b]
    exact fin (by unfold ftP; omega)
  · rw [if_neg (show ¬ nI 3 = 0 by decide), if_neg (show ¬ nI 3 = 1 by decide), if_neg (show ¬ nI 3 = 2 by decide)]
    simp (disch := omega) only [neg_nI, l_0, l_1, l_2, l_3, l_4, l_5, l_6, l_7, l_8, l_9, l_10, l_11, l_12, l_13, l_14, l_15, l_16, l_17, l_18, l_19, l_20, l_21, l_22, l_23, l_24, l_25, l_26, l_27, l_28, l_29, l_30, l_31, l_32, l_33, l_34, l_35, l_36, l_37, l_38, l_39, l_40, l_41, l_100, l_160, l_300, l_999, l_1000, l_2000, nI_inj, nI_lei, nI_lti, ite_cif, cif_1, cif_2, cif_o, cif_b]
    exact fin (by unfold ftP; omega)
theorem x9_fits {σ : sg} {P : gP} (hM : rM σ P) (hV : pVs P) {i y : Nat} (hi : i < 40) (hy : y < 4) : f_X9_fits σ (nI i) (nI y) = some (tf (ftP (pop P i) y)) := by
  have fin : ∀ {A B : Prop}, (A ↔ B) → some (tf A) = some (tf B) := fun h => congrArg some (tf_c h)
  have hv := hV i hi
  have ho := hv.2.1
  unfold f_X9_fits
  rw [x9_op hM hi, Option.bind_some, hv.1]
  by_cases h7 : 7 ≤ pop P i
  · rw [if_pos (show 7 ≤ nI (pop P i) by rw [l_7, nI_lei (by decide) (by omega)]; exact h7)]
    by_cases h77 : pop P i = 7
    · rw [if_pos (show nI (pop P i) = 7 by rw [l_7, nI_inj (by omega) (by decide)]; exact h77)]
      simp (disch := omega) only [neg_nI, l_0, l_1, l_2, l_3, l_4, l_5, l_6, l_7, l_8, l_9, l_10, l_11, l_12, l_13, l_14, l_15, l_16, l_17, l_18, l_19, l_20, l_21, l_22, l_23, l_24, l_25, l_26, l_27, l_28, l_29, l_30, l_31, l_32, l_33, l_34, l_35, l_36, l_37, l_38, l_39, l_40, l_41, l_100, l_160, l_300, l_999, l_1000, l_2000, nI_inj, nI_lei, nI_lti, ite_cif, cif_1, cif_2, cif_o, cif_b]
      exact fin (by unfold ftP; omega)
    rw [if_neg (show ¬ nI (pop P i) = 7 by rw [l_7, nI_inj (by omega) (by decide)]; exact h77)]
    by_cases h10 : pop P i < 10
    · rw [if_pos (show nI (pop P i) < 10 by rw [l_10, nI_lti (by omega) (by decide)]; exact h10)]
      simp (disch := omega) only [neg_nI, l_0, l_1, l_2, l_3, l_4, l_5, l_6, l_7, l_8, l_9, l_10, l_11, l_12, l_13, l_14, l_15, l_16, l_17, l_18, l_19, l_20, l_21, l_22, l_23, l_24, l_25, l_26, l_27, l_28, l_29, l_30, l_31, l_32, l_33, l_34, l_35, l_36, l_37, l_38, l_39, l_40, l_41, l_100, l_160, l_300, l_999, l_1000, l_2000, nI_inj, nI_lei, nI_lti, ite_cif, cif_1, cif_2, cif_o, cif_b]
      exact fin (by unfold ftP; omega)
    rw [if_neg (show ¬ nI (pop P i) < 10 by rw [l_10, nI_lti (by omega) (by decide)]; exact h10)]
    simp (disch := omega) only [neg_nI, l_0, l_1, l_2, l_3, l_4, l_5, l_6, l_7, l_8, l_9, l_10, l_11, l_12, l_13, l_14, l_15, l_16, l_17, l_18, l_19, l_20, l_21, l_22, l_23, l_24, l_25, l_26, l_27, l_28, l_29, l_30, l_31, l_32, l_33, l_34, l_35, l_36, l_37, l_38, l_39, l_40, l_41, l_100, l_160, l_300, l_999, l_1000, l_2000, nI_inj, nI_lei, nI_lti, ite_cif, cif_1, cif_2, cif_o, cif_b]
    exact fin (by unfold ftP; omega)
  · rw [if_neg (show ¬ 7 ≤ nI (pop P i) by rw [l_7, nI_lei (by decide) (by omega)]; exact h7)]
    simp (disch := omega) only [neg_nI, l_0, l_1, l_2, l_3, l_4, l_5, l_6, l_7, l_8, l_9, l_10, l_11, l_12, l_13, l_14, l_15, l_16, l_17, l_18, l_19, l_20, l_21, l_22, l_23, l_24, l_25, l_26, l_27, l_28, l_29, l_30, l_31, l_32, l_33, l_34, l_35, l_36, l_37, l_38, l_39, l_40, l_41, l_100, l_160, l_300, l_999, l_1000, l_2000, nI_inj, nI_lei, nI_lti, ite_cif, cif_1, cif_2, cif_o, cif_b]
    exact fin (by unfold ftP; omega)
/-- whether the mark j is set -/
def bt (m j : Nat) : Nat := m / 2 ^ j % 2
theorem bt_01 (m j : Nat) : bt m j = 0 ∨ bt m j = 1 := by
  unfold bt; omega
theorem bt_nI {m j : Nat} (hm : m < 8) (hj : j < 3) : ((nI m >>> (nI j &&& 31)) &&& (1 : Int32)) = nI (bt m j) := by
  rcases (show m = 0 ∨ m = 1 ∨ m = 2 ∨ m = 3 ∨ m = 4 ∨ m = 5 ∨ m = 6 ∨ m = 7 by omega) with rfl | rfl | rfl | rfl | rfl | rfl | rfl | rfl <;> rcases (show j = 0 ∨ j = 1 ∨ j = 2 by omega) with rfl | rfl | rfl <;> rfl
theorem x7_stops {σ : sg} {t m j : Nat} (ht : t < 8) (h : σ 71 t = nI m) (hm : m < 8) (hj : j < 3) : f_X7_stopsBehind σ (nI t) (nI j) = some (nI (bt m j)) := by
  unfold f_X7_stopsBehind
  rw [ld_71 ht, Option.bind_some, h, bt_nI hm hj]
  rcases bt_01 m j with e | e
  · rw [e, if_pos (show nI 0 = 0 from rfl)]; rfl
  · rw [e, if_neg (show ¬ nI 1 = 0 by decide)]; rfl
/-- next, group, groups, slots -/
abbrev FS := Nat × Nat × (Nat → Nat) × (Nat → Int32)
def tkP (P : gP) (b e : Nat) (ty : Nat → Nat) (j : Nat) (s : FS) : Prop := s.1 < e ∧ ftP (pop P s.1) (ty j) ∧ rdy P b s.1 s.2.1 s.2.2.1
noncomputable def fs1 (P : gP) (b e : Nat) (ty : Nat → Nat) (m j : Nat) (s : FS) : FS := cif (tkP P b e ty j s) (s.1 + 1, s.2.1 + bt m j, (fun i => if i = s.1 then s.2.1 else s.2.2.1 i), (fun k => if k = j then nI s.1 else s.2.2.2 k)) (s.1, s.2.1 + bt m j, s.2.2.1, fun k => if k = j then mI 4 else s.2.2.2 k)
noncomputable def fsN (P : gP) (b e : Nat) (ty : Nat → Nat) (m : Nat) : Nat → FS → FS
  | 0, s => s
  | j + 1, s => fs1 P b e ty m j (fsN P b e ty m j s)
def okFS (b e B : Nat) (s : FS) : Prop := b ≤ s.1 ∧ s.1 ≤ e ∧ s.2.1 ≤ B ∧ (∀ i k, b ≤ i → i ≤ k → k < s.1 → s.2.2.1 i ≤ s.2.2.1 k) ∧ ∀ i, b ≤ i → i < s.1 → s.2.2.1 i ≤ s.2.1
theorem okFS_1 {P : gP} {b e B : Nat} {ty : Nat → Nat} {m j : Nat} {s : FS} (h : okFS b e B s) : okFS b e (B + 1) (fs1 P b e ty m j s) := by
  obtain ⟨h1, h2, h3, h4, h5⟩ := h
  have hb := bt_01 m j
  unfold fs1
  by_cases c : tkP P b e ty j s
  · rw [cif_t c]
    refine ⟨Nat.le_succ_of_le h1, c.1, by show s.2.1 + bt m j ≤ B + 1; omega, fun i k q1 q2 q3 => ?_, fun i q1 q2 => ?_⟩
    · show (if i = s.1 then s.2.1 else s.2.2.1 i) ≤ (if k = s.1 then s.2.1 else s.2.2.1 k)
      have q3' : k < s.1 + 1 := q3
      by_cases ek : k = s.1
      · rw [if_pos ek]
        by_cases ei : i = s.1
        · rw [if_pos ei]; exact Nat.le_refl _
        · rw [if_neg ei]; exact h5 i q1 (by omega)
      · rw [if_neg ek, if_neg (by omega)]
        exact h4 i k q1 q2 (by omega)
    · show (if i = s.1 then s.2.1 else s.2.2.1 i) ≤ s.2.1 + bt m j
      have q2' : i < s.1 + 1 := q2
      by_cases ei : i = s.1
      · rw [if_pos ei]; omega
      · rw [if_neg ei]
        have := h5 i q1 (by omega)
        omega
  · rw [cif_f c]
    refine ⟨h1, h2, by show s.2.1 + bt m j ≤ B + 1; omega, h4, fun i q1 q2 => ?_⟩
    show s.2.2.1 i ≤ s.2.1 + bt m j
    have := h5 i q1 q2
    omega
theorem okFS_N {P : gP} {b e B : Nat} {ty : Nat → Nat} {m : Nat} (j : Nat) {s : FS} (h : okFS b e B s) : okFS b e (B + j) (fsN P b e ty m j s) := by
  induction j with
  | zero => exact h
  | succ j ih => exact okFS_1 ih
