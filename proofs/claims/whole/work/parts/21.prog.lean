/-! THE PROGRAM as rows of four numbers; what a row must be -/
abbrev gP : Type := Nat → Nat → Int32
def pop (P : gP) (i : Nat) : Nat := (P i 0).toNatClampNeg
def pd (P : gP) (i : Nat) : Nat := (P i 1).toNatClampNeg
def pa (P : gP) (i : Nat) : Nat := (P i 2).toNatClampNeg
def pb (P : gP) (i : Nat) : Nat := (P i 3).toNatClampNeg
/-- a row is an instruction: its numbers are in range -/
def pV (P : gP) (i : Nat) : Prop := P i 0 = nI (pop P i) ∧ pop P i < 13 ∧ P i 1 = nI (pd P i) ∧ pd P i < 8 ∧ P i 3 = nI (pb P i) ∧ pb P i < 8 ∧ (pop P i ≠ 0 → P i 2 = nI (pa P i) ∧ pa P i < 40 ∧ (pop P i ≤ 9 → pa P i < 8))
/-- the class's rows, the reference's rows -/
def rI (σ : sg) (P : gP) : Prop := ∀ i j : Nat, i < 40 → j < 4 → σ (3 + i) j = P i j
def rM (σ : sg) (P : gP) : Prop := ∀ i j : Nat, i < 40 → j < 4 → σ (159 + i) j = P i j
def pVs (P : gP) : Prop := ∀ i : Nat, i < 40 → pV P i
def latN (o : Nat) : Nat := if o = 7 then 3 else if o = 8 then 2 else 1
theorem latN_pos (o : Nat) : 1 ≤ latN o := by unfold latN; split <;> (try split) <;> omega
theorem latN_le (o : Nat) : latN o ≤ 3 := by unfold latN; split <;> (try split) <;> omega
section
variable {σ : sg} {P : gP}
theorem ldI (h : rI σ P) {i j : Nat} (hi : i < 40) (hj : j < 4) : ld σ (3 + i) (nI j) = some (P i j) := by
  rw [ldw_3 hi hj, h i j hi hj]
theorem ldM (h : rM σ P) {i j : Nat} (hi : i < 40) (hj : j < 4) : ld σ (159 + i) (nI j) = some (P i j) := by
  rw [ldw_159 hi hj, h i j hi hj]
/-! the class -/
theorem x6_op (h : rI σ P) {i : Nat} (hi : i < 40) : f_X6_operationOf σ (nI i) = some (P i 0) := by
  unfold f_X6_operationOf
  simp (disch := omega) only [neg_nI, l_0, l_1, l_2, l_3, l_4, l_5, l_6, l_7, l_8, l_9, l_10, l_11, l_12, l_13, l_14, l_15, l_16, l_17, l_18, l_19, l_20, l_21, l_22, l_23, l_24, l_25, l_26, l_27, l_28, l_29, l_30, l_31, l_32, l_33, l_34, l_35, l_36, l_37, l_38, l_39, l_40, l_41, l_100, l_160, l_300, l_999, l_1000, l_2000, ldr_2, ldI h, Option.bind_some, Option.bind_none, if_pos, if_neg, reduceIte]
theorem x6_exit (h : rI σ P) {i : Nat} (hi : i < 40) (hv : pV P i) : f_X6_isExit σ (nI i) = some (if 10 ≤ pop P i then nI 1 else nI 0) := by
  unfold f_X6_isExit
  rw [x6_op h hi, hv.1]
  have := hv.2.1
  simp (disch := omega) only [neg_nI, l_0, l_1, l_2, l_3, l_4, l_5, l_6, l_7, l_8, l_9, l_10, l_11, l_12, l_13, l_14, l_15, l_16, l_17, l_18, l_19, l_20, l_21, l_22, l_23, l_24, l_25, l_26, l_27, l_28, l_29, l_30, l_31, l_32, l_33, l_34, l_35, l_36, l_37, l_38, l_39, l_40, l_41, l_100, l_160, l_300, l_999, l_1000, l_2000, nI_lti, nI_lei, nI_inj, nI_add, nI_sub, nI_neg, Option.bind_some, Option.bind_none, if_pos, if_neg, reduceIte]
  by_cases c : 10 ≤ pop P i
  · simp (disch := omega) only [Option.bind_some, Option.bind_none, if_pos, if_neg, reduceIte]
  · simp (disch := omega) only [Option.bind_some, Option.bind_none, if_pos, if_neg, reduceIte]
theorem x6_hasT (h : rI σ P) {i : Nat} (hi : i < 40) (hv : pV P i) : f_X6_hasTarget σ (nI i) = some (if pop P i = 10 ∨ pop P i = 11 then nI 1 else nI 0) := by
  unfold f_X6_hasTarget J_X6_hasTarget_18
  rw [x6_op h hi, hv.1]
  have := hv.2.1
  simp (disch := omega) only [neg_nI, l_0, l_1, l_2, l_3, l_4, l_5, l_6, l_7, l_8, l_9, l_10, l_11, l_12, l_13, l_14, l_15, l_16, l_17, l_18, l_19, l_20, l_21, l_22, l_23, l_24, l_25, l_26, l_27, l_28, l_29, l_30, l_31, l_32, l_33, l_34, l_35, l_36, l_37, l_38, l_39, l_40, l_41, l_100, l_160, l_300, l_999, l_1000, l_2000, nI_lti, nI_lei, nI_inj, nI_add, nI_sub, nI_neg, Option.bind_some, Option.bind_none, if_pos, if_neg, reduceIte]
  by_cases c : pop P i = 10
  · simp (disch := omega) only [Option.bind_some, Option.bind_none, if_pos, if_neg, reduceIte]
  · by_cases c2 : pop P i = 11
    · simp (disch := omega) only [Option.bind_some, Option.bind_none, if_pos, if_neg, reduceIte]
    · simp (disch := omega) only [Option.bind_some, Option.bind_none, if_pos, if_neg, reduceIte]
theorem x6_tgt (h : rI σ P) {i : Nat} (hi : i < 40) : f_X6_targetOf σ (nI i) = some (P i 2) := by
  unfold f_X6_targetOf
  simp (disch := omega) only [neg_nI, l_0, l_1, l_2, l_3, l_4, l_5, l_6, l_7, l_8, l_9, l_10, l_11, l_12, l_13, l_14, l_15, l_16, l_17, l_18, l_19, l_20, l_21, l_22, l_23, l_24, l_25, l_26, l_27, l_28, l_29, l_30, l_31, l_32, l_33, l_34, l_35, l_36, l_37, l_38, l_39, l_40, l_41, l_100, l_160, l_300, l_999, l_1000, l_2000, ldr_2, ldI h, Option.bind_some, Option.bind_none, if_pos, if_neg, reduceIte]
theorem x6_lat (h : rI σ P) {i : Nat} (hi : i < 40) (hv : pV P i) : f_X6_latency σ (nI i) = some (nI (latN (pop P i))) := by
  unfold f_X6_latency latN
  have := hv.2.1
  simp (disch := omega) only [neg_nI, l_0, l_1, l_2, l_3, l_4, l_5, l_6, l_7, l_8, l_9, l_10, l_11, l_12, l_13, l_14, l_15, l_16, l_17, l_18, l_19, l_20, l_21, l_22, l_23, l_24, l_25, l_26, l_27, l_28, l_29, l_30, l_31, l_32, l_33, l_34, l_35, l_36, l_37, l_38, l_39, l_40, l_41, l_100, l_160, l_300, l_999, l_1000, l_2000, ldr_2, ldI h, Option.bind_some, Option.bind_none, if_pos, if_neg, reduceIte, hv.1, nI_inj]
  by_cases c : pop P i = 7
  · simp (disch := omega) only [Option.bind_some, Option.bind_none, if_pos, if_neg, reduceIte]
  · by_cases c2 : pop P i = 8
    · simp (disch := omega) only [Option.bind_some, Option.bind_none, if_pos, if_neg, reduceIte]
    · simp (disch := omega) only [Option.bind_some, Option.bind_none, if_pos, if_neg, reduceIte]
theorem x6_has {n : Nat} (hn : σ 1 1 = nI n) (hn40 : n ≤ 40) (x : Int32) : f_X6_has σ x = some (if 0 ≤ x.toInt ∧ x.toInt < (n : Int) then nI 1 else nI 0) := by
  unfold f_X6_has
  rw [hn]
  simp only [neg_nI, l_0, l_1, l_2, l_3, l_4, l_5, l_6, l_7, l_8, l_9, l_10, l_11, l_12, l_13, l_14, l_15, l_16, l_17, l_18, l_19, l_20, l_21, l_22, l_23, l_24, l_25, l_26, l_27, l_28, l_29, l_30, l_31, l_32, l_33, l_34, l_35, l_36, l_37, l_38, l_39, l_40, l_41, l_100, l_160, l_300, l_999, l_1000, l_2000]
  simp only [Int32.lt_iff_toInt_lt, Int32.le_iff_toInt_le]
  rw [nI_toInt (show n < 2 ^ 31 by omega), nI_toInt (show 0 < 2 ^ 31 by omega)]
  by_cases c1 : x.toInt < 0
  · simp (disch := omega) only [Option.bind_some, Option.bind_none, if_pos, if_neg, reduceIte]
  · by_cases c2 : (n : Int) ≤ x.toInt
    · simp (disch := omega) only [Option.bind_some, Option.bind_none, if_pos, if_neg, reduceIte]
    · simp (disch := omega) only [Option.bind_some, Option.bind_none, if_pos, if_neg, reduceIte]
theorem x6_hasN {n i : Nat} (hn : σ 1 1 = nI n) (hn40 : n ≤ 40) (hi : i < 2147483648) : f_X6_has σ (nI i) = some (if i < n then nI 1 else nI 0) := by
  rw [x6_has hn hn40, nI_toInt hi]
  by_cases c : i < n
  · simp (disch := omega) only [Option.bind_some, Option.bind_none, if_pos, if_neg, reduceIte]
  · simp (disch := omega) only [Option.bind_some, Option.bind_none, if_pos, if_neg, reduceIte]
/-! the reference -/
theorem x9_op (h : rM σ P) {i : Nat} (hi : i < 40) : f_X9_operation σ (nI i) = some (P i 0) := by
  unfold f_X9_operation
  simp (disch := omega) only [neg_nI, l_0, l_1, l_2, l_3, l_4, l_5, l_6, l_7, l_8, l_9, l_10, l_11, l_12, l_13, l_14, l_15, l_16, l_17, l_18, l_19, l_20, l_21, l_22, l_23, l_24, l_25, l_26, l_27, l_28, l_29, l_30, l_31, l_32, l_33, l_34, l_35, l_36, l_37, l_38, l_39, l_40, l_41, l_100, l_160, l_300, l_999, l_1000, l_2000, ldr_158, ldM h, Option.bind_some, Option.bind_none, if_pos, if_neg, reduceIte]
theorem x9_exit (h : rM σ P) {i : Nat} (hi : i < 40) (hv : pV P i) : f_X9_isExit σ (nI i) = some (if 10 ≤ pop P i then nI 1 else nI 0) := by
  unfold f_X9_isExit
  rw [x9_op h hi, hv.1]
  have := hv.2.1
  simp (disch := omega) only [neg_nI, l_0, l_1, l_2, l_3, l_4, l_5, l_6, l_7, l_8, l_9, l_10, l_11, l_12, l_13, l_14, l_15, l_16, l_17, l_18, l_19, l_20, l_21, l_22, l_23, l_24, l_25, l_26, l_27, l_28, l_29, l_30, l_31, l_32, l_33, l_34, l_35, l_36, l_37, l_38, l_39, l_40, l_41, l_100, l_160, l_300, l_999, l_1000, l_2000, nI_lti, nI_lei, nI_inj, nI_add, nI_sub, nI_neg, Option.bind_some, Option.bind_none, if_pos, if_neg, reduceIte]
  by_cases c : 10 ≤ pop P i
  · simp (disch := omega) only [Option.bind_some, Option.bind_none, if_pos, if_neg, reduceIte]
  · simp (disch := omega) only [Option.bind_some, Option.bind_none, if_pos, if_neg, reduceIte]
theorem x9_hasT (h : rM σ P) {i : Nat} (hi : i < 40) (hv : pV P i) : f_X9_hasTarget σ (nI i) = some (if pop P i = 10 ∨ pop P i = 11 then nI 1 else nI 0) := by
  unfold f_X9_hasTarget J_X9_hasTarget_20
  rw [x9_op h hi, hv.1]
  have := hv.2.1
  simp (disch := omega) only [neg_nI, l_0, l_1, l_2, l_3, l_4, l_5, l_6, l_7, l_8, l_9, l_10, l_11, l_12, l_13, l_14, l_15, l_16, l_17, l_18, l_19, l_20, l_21, l_22, l_23, l_24, l_25, l_26, l_27, l_28, l_29, l_30, l_31, l_32, l_33, l_34, l_35, l_36, l_37, l_38, l_39, l_40, l_41, l_100, l_160, l_300, l_999, l_1000, l_2000, nI_lti, nI_lei, nI_inj, nI_add, nI_sub, nI_neg, Option.bind_some, Option.bind_none, if_pos, if_neg, reduceIte]
  by_cases c : pop P i = 10
  · simp (disch := omega) only [Option.bind_some, Option.bind_none, if_pos, if_neg, reduceIte]
  · by_cases c2 : pop P i = 11
    · simp (disch := omega) only [Option.bind_some, Option.bind_none, if_pos, if_neg, reduceIte]
    · simp (disch := omega) only [Option.bind_some, Option.bind_none, if_pos, if_neg, reduceIte]
theorem x9_lat (h : rM σ P) {i : Nat} (hi : i < 40) (hv : pV P i) : f_X9_latency σ (nI i) = some (nI (latN (pop P i))) := by
  unfold f_X9_latency latN
  rw [x9_op h hi, hv.1]
  have := hv.2.1
  simp (disch := omega) only [neg_nI, l_0, l_1, l_2, l_3, l_4, l_5, l_6, l_7, l_8, l_9, l_10, l_11, l_12, l_13, l_14, l_15, l_16, l_17, l_18, l_19, l_20, l_21, l_22, l_23, l_24, l_25, l_26, l_27, l_28, l_29, l_30, l_31, l_32, l_33, l_34, l_35, l_36, l_37, l_38, l_39, l_40, l_41, l_100, l_160, l_300, l_999, l_1000, l_2000, Option.bind_some, Option.bind_none, if_pos, if_neg, reduceIte, nI_inj]
  by_cases c : pop P i = 7
  · simp (disch := omega) only [Option.bind_some, Option.bind_none, if_pos, if_neg, reduceIte]
  · by_cases c2 : pop P i = 8
    · simp (disch := omega) only [Option.bind_some, Option.bind_none, if_pos, if_neg, reduceIte]
    · simp (disch := omega) only [Option.bind_some, Option.bind_none, if_pos, if_neg, reduceIte]
theorem x9_btw (x a b : Int32) : f_X9_isBetween σ x a b = some (if a.toInt ≤ x.toInt ∧ x.toInt ≤ b.toInt then nI 1 else nI 0) := by
  unfold f_X9_isBetween
  simp only [neg_nI, l_0, l_1, l_2, l_3, l_4, l_5, l_6, l_7, l_8, l_9, l_10, l_11, l_12, l_13, l_14, l_15, l_16, l_17, l_18, l_19, l_20, l_21, l_22, l_23, l_24, l_25, l_26, l_27, l_28, l_29, l_30, l_31, l_32, l_33, l_34, l_35, l_36, l_37, l_38, l_39, l_40, l_41, l_100, l_160, l_300, l_999, l_1000, l_2000, Int32.lt_iff_toInt_lt, Int32.le_iff_toInt_le]
  by_cases c1 : x.toInt < a.toInt
  · simp (disch := omega) only [Option.bind_some, Option.bind_none, if_pos, if_neg, reduceIte]
  · by_cases c2 : b.toInt < x.toInt
    · simp (disch := omega) only [Option.bind_some, Option.bind_none, if_pos, if_neg, reduceIte]
    · simp (disch := omega) only [Option.bind_some, Option.bind_none, if_pos, if_neg, reduceIte]
theorem nI_01 {c : Prop} {i : Decidable c} : ((if c then nI 1 else nI 0) = nI 0) = ¬ c := by
  by_cases h : c
  · rw [if_pos h]; exact propext ⟨fun e => absurd e (by decide), fun e => absurd h e⟩
  · rw [if_neg h]; exact propext ⟨fun _ => h, fun _ => rfl⟩
theorem nI_01b {c : Prop} {i : Decidable c} : ((if c then nI 1 else nI 0) = nI 0 ∨ (if c then nI 1 else nI 0) = nI 1) = True := by
  by_cases h : c
  · rw [if_pos h]; exact propext ⟨fun _ => trivial, fun _ => Or.inr rfl⟩
  · rw [if_neg h]; exact propext ⟨fun _ => trivial, fun _ => Or.inl rfl⟩
theorem x9_there {n : Nat} (hn : σ 157 0 = nI n) (hn40 : n ≤ 40) (x : Int32) : f_X9_isThere σ x = some (if 0 ≤ x.toInt ∧ x.toInt < (n : Int) then nI 1 else nI 0) := by
  have h1 : (nI n - nI 1).toInt = (n : Int) - 1 := by
    cases n with
    | zero => rfl
    | succ n => rw [nI_sub (by omega), nI_toInt (by omega)]; omega
  have h0 : (nI 0).toInt = 0 := rfl
  have key : f_X9_isBetween σ x (nI 0) (nI n - nI 1) = some (if 0 ≤ x.toInt ∧ x.toInt < (n : Int) then nI 1 else nI 0) := by
    rw [x9_btw, h1, h0]
    by_cases c : 0 ≤ x.toInt ∧ x.toInt < (n : Int)
    · rw [if_pos c, if_pos (show 0 ≤ x.toInt ∧ x.toInt ≤ (n : Int) - 1 by omega)]
    · rw [if_neg c, if_neg (show ¬ (0 ≤ x.toInt ∧ x.toInt ≤ (n : Int) - 1) by omega)]
  unfold f_X9_isThere
  rw [hn]
  simp only [neg_nI, l_0, l_1, l_2, l_3, l_4, l_5, l_6, l_7, l_8, l_9, l_10, l_11, l_12, l_13, l_14, l_15, l_16, l_17, l_18, l_19, l_20, l_21, l_22, l_23, l_24, l_25, l_26, l_27, l_28, l_29, l_30, l_31, l_32, l_33, l_34, l_35, l_36, l_37, l_38, l_39, l_40, l_41, l_100, l_160, l_300, l_999, l_1000, l_2000]
  rw [key]
  by_cases c : 0 ≤ x.toInt ∧ x.toInt < (n : Int)
  · rw [if_pos c]; rfl
  · rw [if_neg c]; rfl
theorem x9_thereN {n i : Nat} (hn : σ 157 0 = nI n) (hn40 : n ≤ 40) (hi : i < 2147483648) : f_X9_isThere σ (nI i) = some (if i < n then nI 1 else nI 0) := by
  rw [x9_there hn hn40, nI_toInt hi]
  by_cases c : i < n
  · simp (disch := omega) only [Option.bind_some, Option.bind_none, if_pos, if_neg, reduceIte]
  · simp (disch := omega) only [Option.bind_some, Option.bind_none, if_pos, if_neg, reduceIte]
end
