/-! WHAT IS AN INSTRUCTION: both sides take the same numbers -/
theorem ite_cif {α : Type} {c : Prop} {i : Decidable c} {x y : α} : (if c then x else y) = cif c x y := by
  by_cases h : c
  · rw [if_pos h, cif_t h]
  · rw [if_neg h, cif_f h]
theorem cif_a {c d : Prop} : cif c (some (tf d)) (some (nI 0)) = some (tf (c ∧ d)) := by
  by_cases h : c
  · rw [cif_t h]; exact congrArg some (tf_c ⟨fun a => ⟨h, a⟩, fun a => a.2⟩)
  · rw [cif_f h, tf_f (fun a => h a.1)]
theorem cif_b {c d : Prop} : cif c (some (nI 0)) (some (tf d)) = some (tf (¬ c ∧ d)) := by
  by_cases h : c
  · rw [cif_t h, tf_f (fun a => a.1 h)]
  · rw [cif_f h]; exact congrArg some (tf_c ⟨fun a => ⟨h, a⟩, fun a => a.2⟩)
theorem cif_1 {c : Prop} : cif c (some (nI 1)) (some (nI 0)) = some (tf c) := by
  by_cases h : c
  · rw [cif_t h, tf_t h]
  · rw [cif_f h, tf_f h]
theorem cif_2 {c : Prop} : cif c (some (nI 0)) (some (nI 1)) = some (tf (¬ c)) := by
  by_cases h : c
  · rw [cif_t h, tf_f (fun a => a h)]
  · rw [cif_f h, tf_t h]
theorem eqT {x : Int32} {k : Nat} (h : k < 2147483648) : (x = nI k) = (x.toInt = (k : Int)) := by
  rw [← Int32.toInt_inj, nI_toInt h]
theorem ltT {x : Int32} {k : Nat} (h : k < 2147483648) : (x < nI k) = (x.toInt < (k : Int)) := by
  rw [Int32.lt_iff_toInt_lt, nI_toInt h]
theorem gtT {x : Int32} {k : Nat} (h : k < 2147483648) : (nI k < x) = ((k : Int) < x.toInt) := by
  rw [Int32.lt_iff_toInt_lt, nI_toInt h]
theorem leT {x : Int32} {k : Nat} (h : k < 2147483648) : (x ≤ nI k) = (x.toInt ≤ (k : Int)) := by
  rw [Int32.le_iff_toInt_le, nI_toInt h]
theorem geT {x : Int32} {k : Nat} (h : k < 2147483648) : (nI k ≤ x) = ((k : Int) ≤ x.toInt) := by
  rw [Int32.le_iff_toInt_le, nI_toInt h]
theorem ltmT {x : Int32} {k : Nat} (h : k < 2147483648) : (x < mI k) = (x.toInt < -(k : Int)) := by
  rw [Int32.lt_iff_toInt_lt, mI_toInt h]
/-- a register's number -/
abbrev regZ (z : Int) : Prop := 0 ≤ z ∧ z < 8
def vIns (o d a b : Int) : Prop := (o = 0 ∧ regZ d ∧ (-999 ≤ a ∧ a ≤ 999) ∧ b = 0) ∨ ((1 ≤ o ∧ o ≤ 7) ∧ regZ d ∧ regZ a ∧ regZ b) ∨ (o = 8 ∧ regZ d ∧ regZ a ∧ b = 0) ∨ (o = 9 ∧ d = 0 ∧ regZ a ∧ regZ b) ∨ (o = 10 ∧ d = 0 ∧ (0 ≤ a ∧ a < 40) ∧ b = 0) ∨ (o = 11 ∧ d = 0 ∧ (0 ≤ a ∧ a < 40) ∧ regZ b) ∨ (o = 12 ∧ d = 0 ∧ a = 0 ∧ b = 0)
theorem x6_reg (σ : sg) (x : Int32) : f_X6_isRegister σ x = some (tf (regZ x.toInt)) := by
  unfold f_X6_isRegister
  simp (disch := omega) only [neg_nI, l_0, l_1, l_2, l_3, l_4, l_5, l_6, l_7, l_8, l_9, l_10, l_11, l_12, l_13, l_14, l_15, l_16, l_17, l_18, l_19, l_20, l_21, l_22, l_23, l_24, l_25, l_26, l_27, l_28, l_29, l_30, l_31, l_32, l_33, l_34, l_35, l_36, l_37, l_38, l_39, l_40, l_41, l_100, l_160, l_300, l_999, l_1000, l_2000, ltT, geT, ite_cif, cif_2, cif_b]
  exact congrArg some (tf_c (by omega))
theorem x6_tg (σ : sg) (x : Int32) : f_X6_isTarget σ x = some (tf (0 ≤ x.toInt ∧ x.toInt < 40)) := by
  unfold f_X6_isTarget
  simp (disch := omega) only [neg_nI, l_0, l_1, l_2, l_3, l_4, l_5, l_6, l_7, l_8, l_9, l_10, l_11, l_12, l_13, l_14, l_15, l_16, l_17, l_18, l_19, l_20, l_21, l_22, l_23, l_24, l_25, l_26, l_27, l_28, l_29, l_30, l_31, l_32, l_33, l_34, l_35, l_36, l_37, l_38, l_39, l_40, l_41, l_100, l_160, l_300, l_999, l_1000, l_2000, ltT, geT, ite_cif, cif_2, cif_b]
  exact congrArg some (tf_c (by omega))
theorem x6_calc (σ : sg) (x : Int32) : f_X6_isCalculation σ x = some (tf (1 ≤ x.toInt ∧ x.toInt ≤ 7)) := by
  unfold f_X6_isCalculation
  simp (disch := omega) only [neg_nI, l_0, l_1, l_2, l_3, l_4, l_5, l_6, l_7, l_8, l_9, l_10, l_11, l_12, l_13, l_14, l_15, l_16, l_17, l_18, l_19, l_20, l_21, l_22, l_23, l_24, l_25, l_26, l_27, l_28, l_29, l_30, l_31, l_32, l_33, l_34, l_35, l_36, l_37, l_38, l_39, l_40, l_41, l_100, l_160, l_300, l_999, l_1000, l_2000, ltT, gtT, ite_cif, cif_2, cif_b]
  exact congrArg some (tf_c (by omega))
theorem x6_ins (σ : sg) (o d a b : Int32) : f_X6_isInstruction σ o d a b = some (tf (vIns o.toInt d.toInt a.toInt b.toInt)) := by
  have e210 : J_X6_isInstruction_210 σ o d a b = some (tf ((1 ≤ o.toInt ∧ o.toInt ≤ 7) ∧ regZ d.toInt ∧ regZ a.toInt ∧ regZ b.toInt)) := by
    unfold J_X6_isInstruction_210
    simp (disch := omega) only [x6_calc, x6_reg, Option.bind_some, if_tf]
    simp (disch := omega) only [neg_nI, l_0, l_1, l_2, l_3, l_4, l_5, l_6, l_7, l_8, l_9, l_10, l_11, l_12, l_13, l_14, l_15, l_16, l_17, l_18, l_19, l_20, l_21, l_22, l_23, l_24, l_25, l_26, l_27, l_28, l_29, l_30, l_31, l_32, l_33, l_34, l_35, l_36, l_37, l_38, l_39, l_40, l_41, l_100, l_160, l_300, l_999, l_1000, l_2000, cif_1, cif_a]
  have fin : ∀ {A B : Prop}, (A ↔ B) → some (tf A) = some (tf B) := fun h => congrArg some (tf_c h)
  have ne : ∀ k : Nat, k < 100 → ¬ o.toInt = (k : Int) → ¬ o = nI k := fun k hk h q => h (by rw [q, nI_toInt (by omega)])
  have eqq : ∀ k : Nat, k < 100 → o.toInt = (k : Int) → o = nI k := fun k hk h => by rw [eqT (by omega)]; exact h
  unfold f_X6_isInstruction
  rw [e210]
  by_cases c0 : o.toInt = 0
  · rw [if_pos (show o = 0 from eqq 0 (by decide) c0)]
    simp (disch := omega) only [x6_reg, Option.bind_some, if_tf]
    simp (disch := omega) only [neg_nI, l_0, l_1, l_2, l_3, l_4, l_5, l_6, l_7, l_8, l_9, l_10, l_11, l_12, l_13, l_14, l_15, l_16, l_17, l_18, l_19, l_20, l_21, l_22, l_23, l_24, l_25, l_26, l_27, l_28, l_29, l_30, l_31, l_32, l_33, l_34, l_35, l_36, l_37, l_38, l_39, l_40, l_41, l_100, l_160, l_300, l_999, l_1000, l_2000, eqT, ltmT, gtT, ite_cif, cif_1, cif_a, cif_b]
    exact fin (by unfold vIns; omega)
  rw [if_neg (show ¬ o = 0 from ne 0 (by decide) c0)]
  by_cases c1 : 1 ≤ o.toInt ∧ o.toInt ≤ 7
  · have e : some (tf ((1 ≤ o.toInt ∧ o.toInt ≤ 7) ∧ regZ d.toInt ∧ regZ a.toInt ∧ regZ b.toInt)) = some (tf (vIns o.toInt d.toInt a.toInt b.toInt)) := fin (by unfold vIns; omega)
    rw [e]
    by_cases q1 : o.toInt = 1
    · rw [if_pos (show o = 1 from eqq 1 (by decide) q1)]
    rw [if_neg (show ¬ o = 1 from ne 1 (by decide) q1)]
    by_cases q2 : o.toInt = 2
    · rw [if_pos (show o = 2 from eqq 2 (by decide) q2)]
    rw [if_neg (show ¬ o = 2 from ne 2 (by decide) q2)]
    by_cases q3 : o.toInt = 3
    · rw [if_pos (show o = 3 from eqq 3 (by decide) q3)]
    rw [if_neg (show ¬ o = 3 from ne 3 (by decide) q3)]
    by_cases q4 : o.toInt = 4
    · rw [if_pos (show o = 4 from eqq 4 (by decide) q4)]
    rw [if_neg (show ¬ o = 4 from ne 4 (by decide) q4)]
    by_cases q5 : o.toInt = 5
    · rw [if_pos (show o = 5 from eqq 5 (by decide) q5)]
    rw [if_neg (show ¬ o = 5 from ne 5 (by decide) q5)]
    by_cases q6 : o.toInt = 6
    · rw [if_pos (show o = 6 from eqq 6 (by decide) q6)]
    rw [if_neg (show ¬ o = 6 from ne 6 (by decide) q6)]
    by_cases q7 : o.toInt = 7
    · rw [if_pos (show o = 7 from eqq 7 (by decide) q7)]
    rw [if_neg (show ¬ o = 7 from ne 7 (by decide) q7)]
    omega
  rw [if_neg (show ¬ o = 1 from ne 1 (by decide) (by omega))]
  rw [if_neg (show ¬ o = 2 from ne 2 (by decide) (by omega))]
  rw [if_neg (show ¬ o = 3 from ne 3 (by decide) (by omega))]
  rw [if_neg (show ¬ o = 4 from ne 4 (by decide) (by omega))]
  rw [if_neg (show ¬ o = 5 from ne 5 (by decide) (by omega))]
  rw [if_neg (show ¬ o = 6 from ne 6 (by decide) (by omega))]
  rw [if_neg (show ¬ o = 7 from ne 7 (by decide) (by omega))]
  by_cases c8 : o.toInt = 8
  · rw [if_pos (show o = 8 from eqq 8 (by decide) c8)]
    try simp (disch := omega) only [x6_reg, x6_tg, Option.bind_some, if_tf]
    simp (disch := omega) only [neg_nI, l_0, l_1, l_2, l_3, l_4, l_5, l_6, l_7, l_8, l_9, l_10, l_11, l_12, l_13, l_14, l_15, l_16, l_17, l_18, l_19, l_20, l_21, l_22, l_23, l_24, l_25, l_26, l_27, l_28, l_29, l_30, l_31, l_32, l_33, l_34, l_35, l_36, l_37, l_38, l_39, l_40, l_41, l_100, l_160, l_300, l_999, l_1000, l_2000, eqT, ite_cif, cif_1, cif_a, cif_b]
    exact fin (by unfold vIns; omega)
  rw [if_neg (show ¬ o = 8 from ne 8 (by decide) c8)]
  by_cases c9 : o.toInt = 9
  · rw [if_pos (show o = 9 from eqq 9 (by decide) c9)]
    try simp (disch := omega) only [x6_reg, x6_tg, Option.bind_some, if_tf]
    simp (disch := omega) only [neg_nI, l_0, l_1, l_2, l_3, l_4, l_5, l_6, l_7, l_8, l_9, l_10, l_11, l_12, l_13, l_14, l_15, l_16, l_17, l_18, l_19, l_20, l_21, l_22, l_23, l_24, l_25, l_26, l_27, l_28, l_29, l_30, l_31, l_32, l_33, l_34, l_35, l_36, l_37, l_38, l_39, l_40, l_41, l_100, l_160, l_300, l_999, l_1000, l_2000, eqT, ite_cif, cif_1, cif_a, cif_b]
    exact fin (by unfold vIns; omega)
  rw [if_neg (show ¬ o = 9 from ne 9 (by decide) c9)]
  by_cases c10 : o.toInt = 10
  · rw [if_pos (show o = 10 from eqq 10 (by decide) c10)]
    try simp (disch := omega) only [x6_reg, x6_tg, Option.bind_some, if_tf]
    simp (disch := omega) only [neg_nI, l_0, l_1, l_2, l_3, l_4, l_5, l_6, l_7, l_8, l_9, l_10, l_11, l_12, l_13, l_14, l_15, l_16, l_17, l_18, l_19, l_20, l_21, l_22, l_23, l_24, l_25, l_26, l_27, l_28, l_29, l_30, l_31, l_32, l_33, l_34, l_35, l_36, l_37, l_38, l_39, l_40, l_41, l_100, l_160, l_300, l_999, l_1000, l_2000, eqT, ite_cif, cif_1, cif_a, cif_b]
    exact fin (by unfold vIns; omega)
  rw [if_neg (show ¬ o = 10 from ne 10 (by decide) c10)]
  by_cases c11 : o.toInt = 11
  · rw [if_pos (show o = 11 from eqq 11 (by decide) c11)]
    try simp (disch := omega) only [x6_reg, x6_tg, Option.bind_some, if_tf]
    simp (disch := omega) only [neg_nI, l_0, l_1, l_2, l_3, l_4, l_5, l_6, l_7, l_8, l_9, l_10, l_11, l_12, l_13, l_14, l_15, l_16, l_17, l_18, l_19, l_20, l_21, l_22, l_23, l_24, l_25, l_26, l_27, l_28, l_29, l_30, l_31, l_32, l_33, l_34, l_35, l_36, l_37, l_38, l_39, l_40, l_41, l_100, l_160, l_300, l_999, l_1000, l_2000, eqT, ite_cif, cif_1, cif_a, cif_b]
    exact fin (by unfold vIns; omega)
  rw [if_neg (show ¬ o = 11 from ne 11 (by decide) c11)]
  by_cases c12 : o.toInt = 12
  · rw [if_pos (show o = 12 from eqq 12 (by decide) c12)]
    try simp (disch := omega) only [x6_reg, x6_tg, Option.bind_some, if_tf]
    simp (disch := omega) only [neg_nI, l_0, l_1, l_2, l_3, l_4, l_5, l_6, l_7, l_8, l_9, l_10, l_11, l_12, l_13, l_14, l_15, l_16, l_17, l_18, l_19, l_20, l_21, l_22, l_23, l_24, l_25, l_26, l_27, l_28, l_29, l_30, l_31, l_32, l_33, l_34, l_35, l_36, l_37, l_38, l_39, l_40, l_41, l_100, l_160, l_300, l_999, l_1000, l_2000, eqT, ite_cif, cif_1, cif_a, cif_b]
    exact fin (by unfold vIns; omega)
  rw [if_neg (show ¬ o = 12 from ne 12 (by decide) c12)]
  exact fin (by unfold vIns; omega)
theorem x9_btwt (σ : sg) (x a b : Int32) : f_X9_isBetween σ x a b = some (tf (a.toInt ≤ x.toInt ∧ x.toInt ≤ b.toInt)) := by
  rw [x9_btw, tf_if]
theorem x9_reg (σ : sg) (x : Int32) : f_X9_isRegister σ x = some (tf (regZ x.toInt)) := by
  unfold f_X9_isRegister
  rw [x9_btwt, Option.bind_some, nz_tf]
  exact congrArg some (tf_c (by rw [l_0, l_7, nI_toInt (by decide), nI_toInt (by decide)]; omega))
theorem x9_ins (σ : sg) (o d a b : Int32) : f_X9_isInstruction σ o d a b = some (tf (vIns o.toInt d.toInt a.toInt b.toInt)) := by
  unfold f_X9_isInstruction J_X9_isInstruction_197
  simp (disch := omega) only [x9_reg, x9_btwt, Option.bind_some, if_tf]
  simp (disch := omega) only [neg_nI, l_0, l_1, l_2, l_3, l_4, l_5, l_6, l_7, l_8, l_9, l_10, l_11, l_12, l_13, l_14, l_15, l_16, l_17, l_18, l_19, l_20, l_21, l_22, l_23, l_24, l_25, l_26, l_27, l_28, l_29, l_30, l_31, l_32, l_33, l_34, l_35, l_36, l_37, l_38, l_39, l_40, l_41, l_100, l_160, l_300, l_999, l_1000, l_2000, eqT, geT, ite_cif, cif_1, cif_a, cif_b, nI_toInt, mI_toInt]
  by_cases c : ((0 : Nat) : Int) ≤ o.toInt ∧ o.toInt ≤ ((12 : Nat) : Int)
  · rw [cif_t c]
    by_cases c0 : o.toInt = 0
    · rw [cif_t (by omega)]; exact congrArg some (tf_c (by unfold vIns; omega))
    rw [cif_f (by omega)]
    by_cases c8 : 8 ≤ o.toInt
    · rw [cif_t (by omega)]
      by_cases q8 : o.toInt = 8
      · rw [cif_t (by omega)]; exact congrArg some (tf_c (by unfold vIns; omega))
      rw [cif_f (by omega)]
      by_cases q9 : o.toInt = 9
      · rw [cif_t (by omega)]; exact congrArg some (tf_c (by unfold vIns; omega))
      rw [cif_f (by omega)]
      by_cases q12 : o.toInt = 12
      · rw [cif_t (by omega)]; exact congrArg some (tf_c (by unfold vIns; omega))
      rw [cif_f (by omega)]
      by_cases q11 : o.toInt = 11
      · rw [cif_t (show o.toInt = ((11 : Nat) : Int) by omega), cif_a, cif_a]; exact congrArg some (tf_c (by unfold vIns; omega))
      · rw [cif_f (show ¬ o.toInt = ((11 : Nat) : Int) by omega), cif_a, cif_a]; exact congrArg some (tf_c (by unfold vIns; omega))
    · rw [cif_f (by omega)]; exact congrArg some (tf_c (by unfold vIns; omega))
  · rw [cif_f c, tf_f (show ¬ vIns o.toInt d.toInt a.toInt b.toInt by unfold vIns; omega)]
/-- such numbers make a row -/
theorem pV_of {P : gP} {i : Nat} (h : vIns (P i 0).toInt (P i 1).toInt (P i 2).toInt (P i 3).toInt) : pV P i := by
  have e : ∀ x : Int32, x.toNatClampNeg = x.toInt.toNat := fun _ => rfl
  unfold pV pop pd pa pb
  rw [e, e, e, e]
  unfold vIns at h
  refine ⟨nI_ofi (by omega), by omega, nI_ofi (by omega), by omega, nI_ofi (by omega), by omega, fun hz => ⟨nI_ofi (by omega), by omega, fun hz2 => by omega⟩⟩
