/-! THE CHOICE OF THE REFERENCE -/
section
variable {σ : sg} {P : gP} {b e : Nat} {T : Nat → Nat → Nat} {M : Nat → Nat} {tc : Nat}
theorem x9_ch0 {p1 p2 p3 x4 x5 x6 : Int32} {τ : sg} : J_X9_chosen_116 p1 p2 p3 x4 x5 x6 0 τ = some (.inl (x4, x5, x6 + (1 : Int32), τ)) := by
  unfold J_X9_chosen_116 J_X9_chosen_128 J_X9_chosen_144
  rw [if_pos (show (0 : Int32) = 0 from rfl), if_pos (show (0 : Int32) = 0 from rfl)]
theorem x9_ch1 {p1 p2 p3 x4 x5 x6 : Int32} {τ : sg} : J_X9_chosen_116 p1 p2 p3 x4 x5 x6 1 τ = some (.inl (x6, τ 157 15, x6 + (1 : Int32), τ)) := by
  unfold J_X9_chosen_116 J_X9_chosen_128 J_X9_chosen_144
  rw [if_neg (show ¬ (1 : Int32) = 0 by decide), if_neg (show ¬ (1 : Int32) = 0 by decide)]
theorem x9_chosen (hM : rM σ P) (hV : pVs P) (htc : σ 157 8 = nI tc) (h8 : tc ≤ 8) (ht : ∀ t, t < tc → tpM σ t (T t) (M t)) {tb : Nat} (htb : tb < 41) (h11 : ∀ i, b ≤ i → i < e → σ 611 i = nI tb) (h12 : σ 612 tb = nI b) (he : e ≤ 40) {B : Nat} (hB : B ≤ 900) {s0 : FS} (hok : okFS b e B s0) (hg : ∀ i, b ≤ i → i < s0.1 → σ 623 i = nI (s0.2.2.1 i)) : ∃ σ', f_X9_chosen σ (nI s0.1) (nI s0.2.1) (nI e) = some (cbv (chF P b e T M s0 tc), σ') ∧ frM σ σ' b s0 := by
  unfold f_X9_chosen L_X9_chosen_9
  refine Exists.elim (loop_c4 (F := B_X9_chosen_9 (nI s0.1) (nI s0.2.1) (nI e)) tc (fun k a c d τ => a = cbv (chF P b e T M s0 k) ∧ c = ccv (cnF P b e T M s0) (chF P b e T M s0 k) ∧ d = nI k ∧ frM σ τ b s0) (fun z => z.1 = cbv (chF P b e T M s0 tc) ∧ frM σ z.2 b s0) (fun k a c d τ hk hIk => ?_) (fu := gN) (gN_gt (by omega)) (a := -1) (b := -1) (c := 0) (d := σ) ⟨rfl, rfl, rfl, hg, fun _ _ _ _ => rfl, fun _ _ _ _ => rfl⟩) (fun z hz => ⟨z.2, by rw [hz.1, ← hz.2.1], hz.2.2⟩)
  obtain ⟨rfl, rfl, rfl, f1, f2, f3⟩ := hIk
  show (∃ a' c' d' τ', B_X9_chosen_9 (nI s0.1) (nI s0.2.1) (nI e) _ _ (nI k) τ = some (.inl (a', c', d', τ')) ∧ _) ∨ _
  unfold B_X9_chosen_9
  have t8 : τ 157 8 = nI tc := by rw [f3 8 (by decide) (by decide) (by decide)]; exact htc
  by_cases hkt : tc ≤ k
  · have : k = tc := by omega
    subst this
    refine Or.inr ⟨_, if_pos (show τ 157 8 ≤ nI k by rw [t8, nI_lei (by omega) (by omega)]; exact hkt), rfl, f1, f2, f3⟩
  refine Or.inl ?_
  rw [if_neg (show ¬ τ 157 8 ≤ nI k by rw [t8, nI_lei (by omega) (by omega)]; exact hkt)]
  have htp : ∀ t, t < tc → tpM τ t (T t) (M t) := fun t h => by
    obtain ⟨a1, a2, a3, a4⟩ := ht t h
    exact ⟨a1, by rw [f2 622 (by decide) (by decide) (by decide)]; exact a2, a3, fun j hj => by rw [f2 (614 + t) (by omega) (by omega) (by omega)]; exact a4 j hj⟩
  obtain ⟨υ, v1, v13, v14, v15, v623, v624, vr, vk⟩ := x9_fill (b := b) (e := e) (rM_fr hM (fun r q1 q2 => f2 r (by omega) (by omega) (by omega))) hV (htp k (by omega)) htb (fun i q1 q2 => by rw [f2 611 (by decide) (by decide) (by decide)]; exact h11 i q1 q2) (by rw [f2 612 (by decide) (by decide) (by decide)]; exact h12) he hB hok f1
  have hcn : υ 157 15 = nI (cnF P b e T M s0 k) := v15
  have hcle : ∀ t, cnF P b e T M s0 t ≤ 40 := fun t => by
    have : (fsN P b e (T t) (M t) 3 s0).1 ≤ e := (okFS_N 3 hok).2.1
    unfold cnF
    omega
  have hfr : frM σ υ b s0 := ⟨fun i q1 q2 => by rw [v623 i q1 (Nat.lt_of_lt_of_le q2 (fsN_le 3)), fsN_g 3 q2], fun r q1 q2 q3 => by rw [vr r q1 q2 q3, f2 r q1 q2 q3], fun j q1 q2 q3 => by rw [vk j q1 q2 q3, f3 j q1 q2 q3]⟩
  have u22 : ∀ t, t < tc → υ 622 t = nI (M t) := fun t h => by rw [vr 622 (by decide) (by decide) (by decide)]; exact (htp t h).2.1
  rw [v1, Option.bind_some, ld_622 (by omega), Option.bind_some, u22 k (by omega), x9_marks υ (htp k (by omega)).2.2.1, Option.bind_some, hcn]
  have hc9 := hcle k
  have hk1 : nI k + (1 : Int32) = nI (k + 1) := by rw [l_1, nI_add]
  have take : chF P b e T M s0 (k + 1) = some k → ∀ x4 x5 : Int32, ∃ a' c' d' τ', J_X9_chosen_116 (nI s0.1) (nI s0.2.1) (nI e) x4 x5 (nI k) 1 υ = some (.inl (a', c', d', τ')) ∧ k < tc ∧ a' = cbv (chF P b e T M s0 (k + 1)) ∧ c' = ccv (cnF P b e T M s0) (chF P b e T M s0 (k + 1)) ∧ d' = nI (k + 1) ∧ frM σ τ' b s0 := fun q x4 x5 => ⟨_, _, _, _, x9_ch1, by omega, by rw [q]; rfl, by rw [q]; exact hcn, hk1, hfr⟩
  have keep : ∀ c, chF P b e T M s0 (k + 1) = some c → ∃ a' c' d' τ', J_X9_chosen_116 (nI s0.1) (nI s0.2.1) (nI e) (nI c) (nI (cnF P b e T M s0 c)) (nI k) 0 υ = some (.inl (a', c', d', τ')) ∧ k < tc ∧ a' = cbv (chF P b e T M s0 (k + 1)) ∧ c' = ccv (cnF P b e T M s0) (chF P b e T M s0 (k + 1)) ∧ d' = nI (k + 1) ∧ frM σ τ' b s0 := fun c q => ⟨_, _, _, _, x9_ch0, by omega, by rw [q]; rfl, by rw [q]; rfl, hk1, hfr⟩
  cases hc : chF P b e T M s0 k with
  | none =>
    rw [if_neg (show ¬ nI (cnF P b e T M s0 k) ≤ ccv (cnF P b e T M s0) none from mI_nle (by decide) (by decide) (by omega))]
    unfold J_X9_chosen_53
    rw [hcn, if_neg (show ¬ nI (cnF P b e T M s0 k) = ccv (cnF P b e T M s0) none from mI_ne (by decide) (by decide) (by omega))]
    exact take (chs_n hc) _ _
  | some c =>
    have hck : c < k := chs_lt c hc
    have hc8 := hcle c
    rw [show ccv (cnF P b e T M s0) (some c) = nI (cnF P b e T M s0 c) from rfl, show cbv (some c) = nI c from rfl]
    by_cases q1 : cnF P b e T M s0 c < cnF P b e T M s0 k
    · rw [if_neg (show ¬ nI (cnF P b e T M s0 k) ≤ nI (cnF P b e T M s0 c) by rw [nI_lei (by omega) (by omega)]; omega)]
      unfold J_X9_chosen_53
      rw [hcn, if_neg (show ¬ nI (cnF P b e T M s0 k) = nI (cnF P b e T M s0 c) by rw [nI_inj (by omega) (by omega)]; omega)]
      exact take (chs_t hc (Or.inl q1)) _ _
    rw [if_pos (show nI (cnF P b e T M s0 k) ≤ nI (cnF P b e T M s0 c) by rw [nI_lei (by omega) (by omega)]; omega)]
    unfold J_X9_chosen_53 J_X9_chosen_114
    rw [hcn]
    by_cases q2 : cnF P b e T M s0 k = cnF P b e T M s0 c
    · rw [if_pos (show nI (cnF P b e T M s0 k) = nI (cnF P b e T M s0 c) from congrArg nI q2)]
      have b1 := bc_le (M c)
      have b2 := bc_le (M k)
      by_cases h0 : cnF P b e T M s0 k = 0
      · rw [if_pos (show nI (cnF P b e T M s0 k) ≤ 0 by rw [h0]; decide), ld_622 (by omega), Option.bind_some, u22 c (by omega), x9_marks υ (htp c (by omega)).2.2.1, Option.bind_some]
        by_cases q3 : bc (M k) ≤ bc (M c)
        · rw [if_pos (show nI (bc (M k)) ≤ nI (bc (M c)) by rw [nI_lei (by omega) (by omega)]; exact q3)]
          exact keep c (chs_f hc (fun z => z.elim q1 (fun w => w.2.elim (fun y => absurd y.2 (Nat.not_lt.mpr q3)) (fun y => y.1 h0))))
        · rw [if_neg (show ¬ nI (bc (M k)) ≤ nI (bc (M c)) by rw [nI_lei (by omega) (by omega)]; exact q3)]
          exact take (chs_t hc (Or.inr ⟨q2, Or.inl ⟨h0, Nat.lt_of_not_le q3⟩⟩)) _ _
      · rw [if_neg (show ¬ nI (cnF P b e T M s0 k) ≤ 0 by rw [l_0, nI_lei (by omega) (by decide)]; omega), ld_622 (by omega), Option.bind_some, u22 c (by omega), x9_marks υ (htp c (by omega)).2.2.1, Option.bind_some]
        by_cases q3 : bc (M c) ≤ bc (M k)
        · rw [if_pos (show nI (bc (M c)) ≤ nI (bc (M k)) by rw [nI_lei (by omega) (by omega)]; exact q3)]
          exact keep c (chs_f hc (fun z => z.elim q1 (fun w => w.2.elim (fun y => h0 y.1) (fun y => absurd y.2 (Nat.not_lt.mpr q3)))))
        · rw [if_neg (show ¬ nI (bc (M c)) ≤ nI (bc (M k)) by rw [nI_lei (by omega) (by omega)]; exact q3)]
          exact take (chs_t hc (Or.inr ⟨q2, Or.inr ⟨h0, Nat.lt_of_not_le q3⟩⟩)) _ _
    · rw [if_neg (show ¬ nI (cnF P b e T M s0 k) = nI (cnF P b e T M s0 c) by rw [nI_inj (by omega) (by omega)]; exact q2)]
      exact keep c (chs_f hc (fun z => z.elim q1 (fun w => q2 w.1)))
end
