/-! REGISTERS AND MEMORY -/
def iMach (σ : sg) : Prop := (∀ k, k < 8 → σ 146 k = σ 731 k) ∧ ∀ k, k < 16 → σ 147 k = σ 731 (8 + k)
def maOK (f1 f2 : sg → Option (Int32 × sg)) (σ : sg) : Prop := ∃ (v : Int32) (σ1 σ2 : sg), f1 σ = some (v, σ1) ∧ f2 σ1 = some (v, σ2) ∧ iMach σ2 ∧ ∀ r, r ≠ 146 → r ≠ 147 → r ≠ 731 → σ2 r = σ r
def roO8 (f1 f2 : sg → Option Int64) (σ : sg) : Prop := ∃ v : Int64, f1 σ = some v ∧ f2 σ = some v
section
variable {σ : sg}
theorem sr_ok (hm : iMach σ) (x v : Int32) : maOK (fun s => f_X8_setRegister s x v) (fun s => f_X9_setRegister s x v) σ := by
  show ∃ (w : Int32) (σ1 σ2 : sg), f_X8_setRegister σ x v = some (w, σ1) ∧ f_X9_setRegister σ1 x v = some (w, σ2) ∧ iMach σ2 ∧ ∀ r, r ≠ 146 → r ≠ 147 → r ≠ 731 → σ2 r = σ r
  unfold f_X8_setRegister f_X9_setRegister
  refine Or.elim (Classical.em (regZ x.toInt)).symm (fun hx => ?_) (fun hx => ?_)
  · refine ⟨-1, σ, σ, ?_, by rw [x9_reg, Option.bind_some, if_tf, cif_f hx], hm, fun _ _ _ _ => rfl⟩
    by_cases h0 : x.toInt < 0
    · rw [if_pos (show x < 0 by rw [l_0, ltT (by decide)]; exact h0)]
    · rw [if_neg (show ¬ x < 0 by rw [l_0, ltT (by decide)]; exact h0), if_neg (show ¬ x < 8 by rw [l_8, ltT (by decide)]; unfold regZ at hx; omega)]
  obtain ⟨k, hk, rfl⟩ := nI_rg (n := 8) hx
  refine ⟨1, up σ 146 k v, up (up σ 146 k v) 731 k v, ?_, by rw [x9_reg, Option.bind_some, if_tf, cif_t hx, st_731 (by omega), Option.bind_some], ⟨fun m hm8 => ?_, fun m hm6 => ?_⟩, fun r h1 h2 h3 => by rw [up_r h3, up_r h1]⟩
  · rw [if_neg (show ¬ nI k < 0 by rw [l_0, nI_lti (by omega) (by decide)]; omega), if_pos (show nI k < 8 by rw [l_8, nI_lti (by omega) (by decide)]; exact hk), st_146 hk, Option.bind_some]
  · rw [up_r (show 146 ≠ 731 by decide)]
    by_cases e : m = k
    · subst e; rw [up_same, up_same]
    · rw [up_k e, up_k e, up_r (show 731 ≠ 146 by decide)]; exact hm.1 m hm8
  · rw [up_r (show 147 ≠ 731 by decide), up_r (show 147 ≠ 146 by decide), up_k (show 8 + m ≠ k by omega), up_r (show 731 ≠ 146 by decide)]; exact hm.2 m hm6
theorem re_ok (hm : iMach σ) (x : Int32) : roO8 (fun s => f_X8_register s x) (fun s => f_X9_register s x) σ := by
  show ∃ w : Int64, f_X8_register σ x = some w ∧ f_X9_register σ x = some w
  unfold f_X8_register f_X9_register
  refine Or.elim (Classical.em (regZ x.toInt)).symm (fun hx => ?_) (fun hx => ?_)
  · refine ⟨_, ?_, by rw [x9_reg, Option.bind_some, if_tf, cif_f hx]⟩
    by_cases h0 : x.toInt < 0
    · rw [if_pos (show x < 0 by rw [l_0, ltT (by decide)]; exact h0)]
    · rw [if_neg (show ¬ x < 0 by rw [l_0, ltT (by decide)]; exact h0), if_neg (show ¬ x < 8 by rw [l_8, ltT (by decide)]; unfold regZ at hx; omega)]
  obtain ⟨k, hk, rfl⟩ := nI_rg (n := 8) hx
  refine ⟨(σ 731 k).toInt64, ?_, by rw [x9_reg, Option.bind_some, if_tf, cif_t hx, ld_731 (by omega), Option.bind_some]⟩
  rw [if_neg (show ¬ nI k < 0 by rw [l_0, nI_lti (by omega) (by decide)]; omega), if_pos (show nI k < 8 by rw [l_8, nI_lti (by omega) (by decide)]; exact hk), ld_146 hk, Option.bind_some, ← hm.1 k hk]
theorem m15 (σ : sg) (x : Int32) : f_X9_isBetween σ x 0 15 = some (tf (0 ≤ x.toInt ∧ x.toInt < (16 : Nat))) := by
  rw [x9_btwt, l_0, l_15, nI_toInt (by decide), nI_toInt (by decide)]
  exact congrArg some (tf_c (by omega))
theorem sm_ok (hm : iMach σ) (x v : Int32) : maOK (fun s => f_X8_setMemory s x v) (fun s => f_X9_setMemory s x v) σ := by
  show ∃ (w : Int32) (σ1 σ2 : sg), f_X8_setMemory σ x v = some (w, σ1) ∧ f_X9_setMemory σ1 x v = some (w, σ2) ∧ iMach σ2 ∧ ∀ r, r ≠ 146 → r ≠ 147 → r ≠ 731 → σ2 r = σ r
  unfold f_X8_setMemory f_X9_setMemory
  refine Or.elim (Classical.em (0 ≤ x.toInt ∧ x.toInt < (16 : Nat))).symm (fun hx => ?_) (fun hx => ?_)
  · refine ⟨-1, σ, σ, ?_, by rw [m15, Option.bind_some, if_tf, cif_f hx], hm, fun _ _ _ _ => rfl⟩
    by_cases h0 : x.toInt < 0
    · rw [if_pos (show x < 0 by rw [l_0, ltT (by decide)]; exact h0)]
    · rw [if_neg (show ¬ x < 0 by rw [l_0, ltT (by decide)]; exact h0), if_neg (show ¬ x < 16 by rw [l_16, ltT (by decide)]; omega)]
  obtain ⟨k, hk, rfl⟩ := nI_rg hx
  refine ⟨1, up σ 147 k v, up (up σ 147 k v) 731 (8 + k) v, ?_, by rw [m15, Option.bind_some, if_tf, cif_t hx, l_8, nI_add, st_731 (by omega), Option.bind_some], ⟨fun m hm8 => ?_, fun m hm6 => ?_⟩, fun r h1 h2 h3 => by rw [up_r h3, up_r h2]⟩
  · rw [if_neg (show ¬ nI k < 0 by rw [l_0, nI_lti (by omega) (by decide)]; omega), if_pos (show nI k < 16 by rw [l_16, nI_lti (by omega) (by decide)]; exact hk), st_147 hk, Option.bind_some]
  · rw [up_r (show 146 ≠ 731 by decide), up_r (show 146 ≠ 147 by decide), up_k (show m ≠ 8 + k by omega), up_r (show 731 ≠ 147 by decide)]; exact hm.1 m hm8
  · rw [up_r (show 147 ≠ 731 by decide)]
    by_cases e : m = k
    · subst e; rw [up_same, up_same]
    · rw [up_k e, up_k (show 8 + m ≠ 8 + k by omega), up_r (show 731 ≠ 147 by decide)]; exact hm.2 m hm6
theorem me_ok (hm : iMach σ) (x : Int32) : roO8 (fun s => f_X8_memory s x) (fun s => f_X9_memory s x) σ := by
  show ∃ w : Int64, f_X8_memory σ x = some w ∧ f_X9_memory σ x = some w
  unfold f_X8_memory f_X9_memory
  refine Or.elim (Classical.em (0 ≤ x.toInt ∧ x.toInt < (16 : Nat))).symm (fun hx => ?_) (fun hx => ?_)
  · refine ⟨_, ?_, by rw [m15, Option.bind_some, if_tf, cif_f hx]⟩
    by_cases h0 : x.toInt < 0
    · rw [if_pos (show x < 0 by rw [l_0, ltT (by decide)]; exact h0)]
    · rw [if_neg (show ¬ x < 0 by rw [l_0, ltT (by decide)]; exact h0), if_neg (show ¬ x < 16 by rw [l_16, ltT (by decide)]; omega)]
  obtain ⟨k, hk, rfl⟩ := nI_rg hx
  refine ⟨(σ 731 (8 + k)).toInt64, ?_, by rw [m15, Option.bind_some, if_tf, cif_t hx, l_8, nI_add, ld_731 (by omega), Option.bind_some]⟩
  rw [if_neg (show ¬ nI k < 0 by rw [l_0, nI_lti (by omega) (by decide)]; omega), if_pos (show nI k < 16 by rw [l_16, nI_lti (by omega) (by decide)]; exact hk), ld_147 hk, Option.bind_some, ← hm.2 k hk]
end
