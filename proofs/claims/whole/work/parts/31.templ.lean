/-! THE TEMPLATES -/
def iTmp (σ : sg) (tc : Nat) : Prop := σ 61 2 = nI tc ∧ σ 157 8 = nI tc ∧ tc ≤ 8 ∧ ∀ t, t < tc → σ 622 t = σ 71 t ∧ (∃ y, y < 8 ∧ σ 71 t = nI y) ∧ ∀ j, j < 3 → σ (614 + t) j = σ (63 + t) j ∧ ∃ y, y < 4 ∧ σ (63 + t) j = nI y
def tmD (r k : Nat) : Prop := (61 ≤ r ∧ r ≤ 71) ∨ (r = 157 ∧ k = 8) ∨ (613 ≤ r ∧ r ≤ 622)
def tmOK (f1 f2 : sg → Option (Int32 × sg)) (σ : sg) : Prop := ∃ (v : Int32) (σ1 σ2 : sg) (tc' : Nat), f1 σ = some (v, σ1) ∧ f2 σ1 = some (v, σ2) ∧ iTmp σ2 tc' ∧ ∀ r k, ¬ tmD r k → σ2 r k = σ r k
def ro3 (a b c : Int32) (j : Nat) : Int32 := if j = 0 then a else if j = 1 then b else c
def w3 (σ : sg) (r : Nat) (a b c : Int32) : sg := up (up (up σ r 0 a) r 1 b) r 2 c
theorem w3_o {σ : sg} {r q : Nat} {a b c : Int32} (h : q ≠ r) : w3 σ r a b c q = σ q := by
  unfold w3; rw [up_r h, up_r h, up_r h]
theorem w3_s {σ : sg} {r : Nat} {a b c : Int32} {j : Nat} (hj : j < 3) : w3 σ r a b c r j = ro3 a b c j := by
  unfold w3 ro3
  rcases (show j = 0 ∨ j = 1 ∨ j = 2 by omega) with rfl | rfl | rfl
  · rw [up_k (by decide), up_k (by decide), up_same]; rfl
  · rw [up_k (by decide), up_same]; rfl
  · rw [up_same]; rfl
section
variable {σ : sg} {tc : Nat}
theorem tm_same {f1 f2 : sg → Option (Int32 × sg)} (ht : iTmp σ tc) {v : Int32} (h1 : f1 σ = some (v, σ)) (h2 : f2 σ = some (v, σ)) : tmOK f1 f2 σ := ⟨v, σ, σ, tc, h1, h2, ht, fun _ _ _ => rfl⟩
theorem x7_type (σ : sg) (x : Int32) : f_X7_isType σ x = some (tf (0 ≤ x.toInt ∧ x.toInt < (4 : Nat))) := by
  unfold f_X7_isType
  simp (disch := omega) only [neg_nI, l_0, l_1, l_2, l_3, l_4, l_5, l_6, l_7, l_8, l_9, l_10, l_11, l_12, l_13, l_14, l_15, l_16, l_17, l_18, l_19, l_20, l_21, l_22, l_23, l_24, l_25, l_26, l_27, l_28, l_29, l_30, l_31, l_32, l_33, l_34, l_35, l_36, l_37, l_38, l_39, l_40, l_41, l_100, l_160, l_300, l_999, l_1000, l_2000, ltT, geT, ite_cif, cif_2, cif_b]
  exact congrArg some (tf_c (by omega))
theorem x9_type (σ : sg) (x : Int32) : f_X9_isType σ x = some (tf (0 ≤ x.toInt ∧ x.toInt < (4 : Nat))) := by
  unfold f_X9_isType
  rw [x9_btwt, Option.bind_some, nz_tf]
  exact congrArg some (tf_c (by rw [l_0, l_3, nI_toInt (by decide), nI_toInt (by decide)]; omega))
theorem tc_ok (ht : iTmp σ tc) : roOK f_X8_templateCount f_X9_templateCount σ := ⟨nI tc, congrArg some ht.1, congrArg some ht.2.1⟩
theorem cl_ok (ht : iTmp σ tc) {z : Prop} (hz1 : σ 75 12 = tf z) (hz9 : σ 157 16 = tf z) : tmOK f_X8_clearTemplates f_X9_clearTemplates σ := by
  by_cases hz : z
  · refine tm_same (v := -5) ht ?_ ?_
    · unfold f_X8_clearTemplates
      rw [if_neg (show ¬ σ 75 12 = 0 by rw [hz1, tf_0]; exact fun g => g hz)]
    · unfold f_X9_clearTemplates
      rw [if_neg (show ¬ σ 157 16 = 0 by rw [hz9, tf_0]; exact fun g => g hz)]
  have k1 : σ 75 12 = 0 := by rw [hz1, tf_0]; exact hz
  have k9 : σ 157 16 = 0 := by rw [hz9, tf_0]; exact hz
  refine ⟨nI tc, up σ 61 2 (nI 0), up (up σ 61 2 (nI 0)) 157 8 (nI 0), 0, ?_, ?_, ⟨?_, up_same _ _ _ _, by decide, fun t h => absurd h (Nat.not_lt_zero t)⟩, fun r k h => ?_⟩
  · unfold f_X8_clearTemplates
    rw [if_pos k1, Option.bind_some, ht.1, l_0]
  · unfold f_X9_clearTemplates
    rw [if_pos (show up σ 61 2 (nI 0) 157 16 = 0 by rw [up_r (by decide)]; exact k9), Option.bind_some, up_r (show 157 ≠ 61 by decide), ht.2.1, l_0]
  · rw [up_r (by decide), up_same]
  · unfold tmD at h
    by_cases e : r = 157
    · subst e
      rw [up_k (by omega), up_r (by decide)]
    · rw [up_r e, up_r (by omega)]
theorem te_ok (ht : iTmp σ tc) (x y : Int32) : roOK (fun s => f_X8_template s x y) (fun s => f_X9_template s x y) σ := by
  obtain ⟨h1, h2, h8, h3⟩ := ht
  show ∃ v : Int32, f_X8_template σ x y = some v ∧ f_X9_template σ x y = some v
  unfold f_X8_template f_X9_template
  have ex : f_X9_isBetween σ x 0 (σ 157 8 - 1) = some (tf (0 ≤ x.toInt ∧ x.toInt < (tc : Int))) := by
    rw [x9_btwt, h2, l_0, l_1, subT (by omega), nI_toInt (by decide)]
    exact congrArg some (tf_c (by omega))
  have ey : f_X9_isBetween σ y 0 3 = some (tf (0 ≤ y.toInt ∧ y.toInt < (4 : Nat))) := by
    rw [x9_btwt, l_0, l_3, nI_toInt (by decide), nI_toInt (by decide)]
    exact congrArg some (tf_c (by omega))
  rw [ex, Option.bind_some, if_tf]
  by_cases x0 : x.toInt < 0
  · exact ⟨-1, by rw [if_pos (show x < 0 by rw [l_0, ltT (by decide)]; exact x0)], by rw [cif_f (by omega)]⟩
  rw [if_neg (show ¬ x < 0 by rw [l_0, ltT (by decide)]; exact x0)]
  refine Or.elim (Classical.em (x.toInt < (tc : Int))).symm (fun x1 => ?_) (fun x1 => ?_)
  · exact ⟨-1, by rw [if_neg (show ¬ x < σ 61 2 by rw [h1, ltT (by omega)]; exact x1)], by rw [cif_f (by omega)]⟩
  rw [if_pos (show x < σ 61 2 by rw [h1, ltT (by omega)]; exact x1), cif_t (by omega), ey, Option.bind_some, if_tf]
  by_cases y0 : y.toInt < 0
  · exact ⟨-2, by rw [if_pos (show y < 0 by rw [l_0, ltT (by decide)]; exact y0)], by rw [cif_f (by omega)]⟩
  rw [if_neg (show ¬ y < 0 by rw [l_0, ltT (by decide)]; exact y0)]
  refine Or.elim (Classical.em (y.toInt ≤ (3 : Nat))).symm (fun y1 => ?_) (fun y1 => ?_)
  · exact ⟨-2, by rw [if_neg (show ¬ y ≤ 3 by rw [l_3, leT (by decide)]; exact y1)], by rw [cif_f (by omega)]⟩
  rw [if_pos (show y ≤ 3 by rw [l_3, leT (by decide)]; exact y1), cif_t (by omega)]
  obtain ⟨t, htc, rfl⟩ := nI_rg (n := tc) ⟨by omega, x1⟩
  obtain ⟨j, hj, rfl⟩ := nI_rg (x := y) (n := 4) ⟨by omega, by omega⟩
  by_cases e : j = 3
  · subst e
    exact ⟨σ 71 t, by rw [if_pos (show nI 3 = 3 from rfl), ld_71 (by omega), Option.bind_some], by rw [if_pos (show nI 3 = 3 from rfl), ld_622 (by omega), Option.bind_some, (h3 t htc).1]⟩
  · have ne : ¬ nI j = 3 := by rw [l_3, nI_inj (by omega) (by decide)]; exact e
    exact ⟨σ (63 + t) j, by rw [if_neg ne, ldr_62 (by omega), Option.bind_some, ldw_63 (by omega) (by omega), Option.bind_some], by rw [if_neg ne, ldr_613 (by omega), Option.bind_some, ldw_614 (by omega) (by omega), Option.bind_some, ((h3 t htc).2.2 j (by omega)).1]⟩
theorem at_ok (ht : iTmp σ tc) {z : Prop} (hz1 : σ 75 12 = tf z) (hz9 : σ 157 16 = tf z) (a b c m : Int32) : tmOK (fun s => f_X8_addTemplate s a b c m) (fun s => f_X9_addTemplate s a b c m) σ := by
  obtain ⟨h1, h2, h8, h3⟩ := id ht
  have em : ∀ τ : sg, f_X9_isBetween τ m 0 7 = some (tf (0 ≤ m.toInt ∧ m.toInt < (8 : Nat))) := fun τ => by
    rw [x9_btwt, l_0, l_7, nI_toInt (by decide), nI_toInt (by decide)]
    exact congrArg some (tf_c (by omega))
  refine Or.elim (Classical.em (0 ≤ a.toInt ∧ a.toInt < (4 : Nat))).symm (fun ha => ?_) (fun ha => ?_)
  · refine tm_same (v := -2) ht ?_ ?_
    · show f_X8_addTemplate σ a b c m = _
      unfold f_X8_addTemplate
      rw [x7_type, Option.bind_some, if_tf, cif_f ha]
    · show f_X9_addTemplate σ a b c m = _
      unfold f_X9_addTemplate
      rw [x9_type, Option.bind_some, if_tf, cif_f ha]
  refine Or.elim (Classical.em (0 ≤ b.toInt ∧ b.toInt < (4 : Nat))).symm (fun hb => ?_) (fun hb => ?_)
  · refine tm_same (v := -2) ht ?_ ?_
    · show f_X8_addTemplate σ a b c m = _
      unfold f_X8_addTemplate
      rw [x7_type, Option.bind_some, if_tf, cif_t ha, x7_type, Option.bind_some, if_tf, cif_f hb]
    · show f_X9_addTemplate σ a b c m = _
      unfold f_X9_addTemplate
      rw [x9_type, Option.bind_some, if_tf, cif_t ha, x9_type, Option.bind_some, if_tf, cif_f hb]
  refine Or.elim (Classical.em (0 ≤ c.toInt ∧ c.toInt < (4 : Nat))).symm (fun hc => ?_) (fun hc => ?_)
  · refine tm_same (v := -2) ht ?_ ?_
    · show f_X8_addTemplate σ a b c m = _
      unfold f_X8_addTemplate
      rw [x7_type, Option.bind_some, if_tf, cif_t ha, x7_type, Option.bind_some, if_tf, cif_t hb, x7_type, Option.bind_some, if_tf, cif_f hc]
    · show f_X9_addTemplate σ a b c m = _
      unfold f_X9_addTemplate
      rw [x9_type, Option.bind_some, if_tf, cif_t ha, x9_type, Option.bind_some, if_tf, cif_t hb, x9_type, Option.bind_some, if_tf, cif_f hc]
  refine Or.elim (Classical.em (0 ≤ m.toInt ∧ m.toInt < (8 : Nat))).symm (fun hm => ?_) (fun hm => ?_)
  · refine tm_same (v := -2) ht ?_ ?_
    · show f_X8_addTemplate σ a b c m = _
      unfold f_X8_addTemplate
      rw [x7_type, Option.bind_some, if_tf, cif_t ha, x7_type, Option.bind_some, if_tf, cif_t hb, x7_type, Option.bind_some, if_tf, cif_t hc]
      by_cases m0 : m.toInt < 0
      · rw [if_pos (show m < 0 by rw [l_0, ltT (by decide)]; exact m0)]
      · rw [if_neg (show ¬ m < 0 by rw [l_0, ltT (by decide)]; exact m0), if_neg (show ¬ m < 8 by rw [l_8, ltT (by decide)]; omega)]
    · show f_X9_addTemplate σ a b c m = _
      unfold f_X9_addTemplate
      rw [x9_type, Option.bind_some, if_tf, cif_t ha, x9_type, Option.bind_some, if_tf, cif_t hb, x9_type, Option.bind_some, if_tf, cif_t hc, em, Option.bind_some, if_tf, cif_f hm]
  have m0 : ¬ m < 0 := by rw [l_0, ltT (by decide)]; omega
  have m8 : m < 8 := by rw [l_8, ltT (by decide)]; omega
  by_cases hz : z
  · refine tm_same (v := -5) ht ?_ ?_
    · show f_X8_addTemplate σ a b c m = _
      unfold f_X8_addTemplate
      rw [x7_type, Option.bind_some, if_tf, cif_t ha, x7_type, Option.bind_some, if_tf, cif_t hb, x7_type, Option.bind_some, if_tf, cif_t hc, if_neg m0, if_pos m8, if_neg (show ¬ σ 75 12 = 0 by rw [hz1, tf_0]; exact fun g => g hz)]
    · show f_X9_addTemplate σ a b c m = _
      unfold f_X9_addTemplate
      rw [x9_type, Option.bind_some, if_tf, cif_t ha, x9_type, Option.bind_some, if_tf, cif_t hb, x9_type, Option.bind_some, if_tf, cif_t hc, em, Option.bind_some, if_tf, cif_t hm, if_neg (show ¬ σ 157 16 = 0 by rw [hz9, tf_0]; exact fun g => g hz)]
  have k1 : σ 75 12 = 0 := by rw [hz1, tf_0]; exact hz
  have k9 : σ 157 16 = 0 := by rw [hz9, tf_0]; exact hz
  by_cases t8 : tc = 8
  · subst t8
    refine tm_same (v := -3) ht ?_ ?_
    · show f_X8_addTemplate σ a b c m = _
      unfold f_X8_addTemplate
      rw [x7_type, Option.bind_some, if_tf, cif_t ha, x7_type, Option.bind_some, if_tf, cif_t hb, x7_type, Option.bind_some, if_tf, cif_t hc, if_neg m0, if_pos m8, if_pos k1, if_neg (show ¬ σ 61 2 < 8 by rw [h1, l_8, nI_lti (by decide) (by decide)]; decide)]
    · show f_X9_addTemplate σ a b c m = _
      unfold f_X9_addTemplate
      rw [x9_type, Option.bind_some, if_tf, cif_t ha, x9_type, Option.bind_some, if_tf, cif_t hb, x9_type, Option.bind_some, if_tf, cif_t hc, em, Option.bind_some, if_tf, cif_t hm, if_pos k9, if_pos (show σ 157 8 = 8 by rw [h2]; rfl)]
  have hl : tc < 8 := by omega
  have e1 : f_X7_append σ a b c m = some (up (up (w3 σ (63 + tc) a b c) 71 tc m) 61 2 (nI (tc + 1))) := by
    unfold f_X7_append w3
    rw [h1, ldr_62 hl, Option.bind_some, l_0, stw_63 hl (by decide), Option.bind_some, up_r (show 61 ≠ 63 + tc by omega), h1, ldr_62 hl, Option.bind_some, l_1, stw_63 hl (by decide), Option.bind_some, up_r (show 61 ≠ 63 + tc by omega), up_r (show 61 ≠ 63 + tc by omega), h1, ldr_62 hl, Option.bind_some, l_2, stw_63 hl (by decide), Option.bind_some, up_r (show 61 ≠ 63 + tc by omega), up_r (show 61 ≠ 63 + tc by omega), up_r (show 61 ≠ 63 + tc by omega), h1, st_71 hl, Option.bind_some, up_r (show 61 ≠ 71 by decide), up_r (show 61 ≠ 63 + tc by omega), up_r (show 61 ≠ 63 + tc by omega), up_r (show 61 ≠ 63 + tc by omega), h1, nI_add, Option.bind_some]
  obtain ⟨s, hs⟩ : ∃ s, s = up (up (w3 σ (63 + tc) a b c) 71 tc m) 61 2 (nI (tc + 1)) := ⟨_, rfl⟩
  rw [← hs] at e1
  have s157 : s 157 = σ 157 := by rw [hs, up_r (by decide), up_r (by decide), w3_o (by omega)]
  have s61 : s 61 2 = nI (tc + 1) := by rw [hs, up_same]
  refine ⟨nI tc, s, up (up (w3 s (614 + tc) a b c) 622 tc m) 157 8 (nI (tc + 1)), tc + 1, ?_, ?_, ⟨?_, up_same _ _ _ _, by omega, fun t hlt => ?_⟩, fun r k h => ?_⟩
  · show f_X8_addTemplate σ a b c m = _
    unfold f_X8_addTemplate
    rw [x7_type, Option.bind_some, if_tf, cif_t ha, x7_type, Option.bind_some, if_tf, cif_t hb, x7_type, Option.bind_some, if_tf, cif_t hc, if_neg m0, if_pos m8, if_pos k1, if_pos (show σ 61 2 < 8 by rw [h1, l_8, nI_lti (by omega) (by decide)]; exact hl), e1, Option.bind_some, s61, l_1, nI_sub (by omega)]
    rfl
  · show f_X9_addTemplate s a b c m = _
    have n8 : ¬ s 157 8 = 8 := by rw [s157, h2, l_8, nI_inj (by omega) (by decide)]; exact t8
    have s8 : s 157 8 = nI tc := by rw [s157]; exact h2
    unfold f_X9_addTemplate w3
    rw [x9_type, Option.bind_some, if_tf, cif_t ha, x9_type, Option.bind_some, if_tf, cif_t hb, x9_type, Option.bind_some, if_tf, cif_t hc, em, Option.bind_some, if_tf, cif_t hm, if_pos (show s 157 16 = 0 by rw [s157]; exact k9), if_neg n8,
      s8, ldr_613 hl, Option.bind_some, l_0, stw_614 hl (by decide), Option.bind_some, up_r (show 157 ≠ 614 + tc by omega), s8, ldr_613 hl, Option.bind_some, l_1, stw_614 hl (by decide), Option.bind_some, up_r (show 157 ≠ 614 + tc by omega), up_r (show 157 ≠ 614 + tc by omega), s8, ldr_613 hl, Option.bind_some, l_2, stw_614 hl (by decide), Option.bind_some, up_r (show 157 ≠ 614 + tc by omega), up_r (show 157 ≠ 614 + tc by omega), up_r (show 157 ≠ 614 + tc by omega), s8, st_622 hl, Option.bind_some, up_r (show 157 ≠ 622 by decide), up_r (show 157 ≠ 614 + tc by omega), up_r (show 157 ≠ 614 + tc by omega), up_r (show 157 ≠ 614 + tc by omega), s8, nI_add, Option.bind_some, up_same, nI_sub (by omega)]
    rfl
  · rw [up_r (by decide), up_r (by decide), w3_o (by omega)]; exact s61
  · have q1 : ∀ k, up (up (w3 s (614 + tc) a b c) 622 tc m) 157 8 (nI (tc + 1)) 71 k = up σ 71 tc m 71 k := fun k => by
      rw [up_r (by decide), up_r (by decide), w3_o (by omega), hs, up_r (by decide)]
      unfold up
      simp only [w3_o (show 71 ≠ 63 + tc by omega)]
    have q2 : ∀ k, up (up (w3 s (614 + tc) a b c) 622 tc m) 157 8 (nI (tc + 1)) 622 k = up σ 622 tc m 622 k := fun k => by
      have z : w3 s (614 + tc) a b c 622 = σ 622 := by rw [w3_o (by omega), hs, up_r (by decide), up_r (by decide), w3_o (by omega)]
      rw [up_r (by decide)]
      unfold up
      simp only [z]
    have q3 : up (up (w3 s (614 + tc) a b c) 622 tc m) 157 8 (nI (tc + 1)) (63 + t) = w3 σ (63 + tc) a b c (63 + t) := by
      rw [up_r (by omega), up_r (by omega), w3_o (by omega), hs, up_r (by omega), up_r (by omega)]
    have q4 : up (up (w3 s (614 + tc) a b c) 622 tc m) 157 8 (nI (tc + 1)) (614 + t) = w3 s (614 + tc) a b c (614 + t) := by
      rw [up_r (by omega), up_r (by omega)]
    rw [q1, q2, q3, q4]
    by_cases e : t = tc
    · subst e
      rw [up_same, up_same]
      refine ⟨rfl, nI_rg hm, fun j hj => ?_⟩
      rw [w3_s hj, w3_s hj]
      refine ⟨rfl, ?_⟩
      rcases (show j = 0 ∨ j = 1 ∨ j = 2 by omega) with rfl | rfl | rfl
      · exact nI_rg ha
      · exact nI_rg hb
      · exact nI_rg hc
    · have hlt' : t < tc := by omega
      rw [up_k e, up_k e, w3_o (show 63 + t ≠ 63 + tc by omega), w3_o (show 614 + t ≠ 614 + tc by omega), hs, up_r (show 614 + t ≠ 61 by omega), up_r (show 614 + t ≠ 71 by omega), w3_o (show 614 + t ≠ 63 + tc by omega)]
      exact h3 t hlt'
  · unfold tmD at h
    have z : s r = σ r := by rw [hs, up_r (by omega), up_r (by omega), w3_o (by omega)]
    by_cases e : r = 157
    · subst e
      rw [up_k (by omega), up_r (by decide), w3_o (by omega), z]
    · rw [up_r e, up_r (by omega), w3_o (by omega), z]
end
