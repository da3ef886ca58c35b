/-! THE CHANGES: add, set, removeLast, undo -/
section
variable {σ : sg} {P : gP} {n : Nat}
theorem x9_rem66 (hM : rM σ P) (hn : σ 157 0 = nI n) {c : Nat} (hc : σ 157 4 = nI c) (hc10 : c < 10) : ∃ σ', J_X9_remember_66 σ = some σ' ∧ (∀ r, r ≠ 157 → r ≠ 610 → ¬ (200 ≤ r ∧ r < 610) → σ' r = σ r) ∧ (∀ k, k ≠ 4 → σ' 157 k = σ 157 k) ∧ σ' 157 4 = nI (c + 1) ∧ σ' 610 c = nI n ∧ (∀ k, k < c → σ' 610 k = σ 610 k) ∧ (∀ x j, x < 40 → j < 4 → σ' (201 + 41 * c + x) j = P x j) ∧ ∀ k x j, k < c → x < 40 → j < 4 → σ' (201 + 41 * k + x) j = σ (201 + 41 * k + x) j := by
  unfold J_X9_remember_66
  rw [hc, hn, st_610 hc10, Option.bind_some, show up σ 610 c (nI n) 157 4 = nI c by rw [up_r (by decide)]; exact hc, ldr_199 hc10, Option.bind_some]
  obtain ⟨τ, t1, t2, t3⟩ := x9_copy (σ := up σ 610 c (nI n)) (p0 := 158) (p1 := 200 + 41 * c) (b0 := 159) (b1 := 201 + 41 * c) (fun x hx => ldr_158 hx) (fun x hx => ldr_200 hc10 hx) (fun τ x j hx hj => ldw_159 hx hj) (fun τ x j v hx hj => stw_201 hc10 hx hj) (by omega)
  rw [t1, Option.bind_some]
  have e4 : τ 157 4 = nI c := by rw [t3 157 4 (by omega), up_r (by decide)]; exact hc
  rw [e4, l_1, nI_add, Option.bind_some]
  refine ⟨_, rfl, fun r h1 h2 h3 => ?_, fun k hk => ?_, ?_, ?_, fun k hk => ?_, fun x j hx hj => ?_, fun k x j hk hx hj => ?_⟩
  · funext k
    rw [up_r h1, t3 r k (by omega), up_r h2]
  · rw [up_k hk, t3 157 k (by omega), up_r (by decide)]
  · rw [up_same]
  · rw [up_r (by decide), t3 610 c (by omega), up_same]
  · rw [up_r (by decide), t3 610 k (by omega), up_k (by omega)]
  · rw [up_r (by omega), t2 x j hx hj, up_r (by omega)]
    exact hM x j hx hj
  · rw [up_r (by omega), t3 _ _ (by omega), up_r (by omega)]
/-- the reference remembers: d is 1 if the oldest goes, 0 if there is room -/
theorem x9_rem (hM : rM σ P) (hn : σ 157 0 = nI n) {c d : Nat} (hc : σ 157 4 = nI (c + d)) (hc10 : c < 10) (hd : (d = 0) ∨ (d = 1 ∧ c = 9)) : ∃ σ', f_X9_remember σ = some σ' ∧ (∀ r, r ≠ 157 → r ≠ 610 → ¬ (200 ≤ r ∧ r < 610) → σ' r = σ r) ∧ (∀ k, k ≠ 4 → σ' 157 k = σ 157 k) ∧ σ' 157 4 = nI (c + 1) ∧ σ' 610 c = nI n ∧ (∀ k, k < c → σ' 610 k = σ 610 (k + d)) ∧ (∀ x j, x < 40 → j < 4 → σ' (201 + 41 * c + x) j = P x j) ∧ ∀ k x j, k < c → x < 40 → j < 4 → σ' (201 + 41 * k + x) j = σ (201 + 41 * (k + d) + x) j := by
  unfold f_X9_remember
  rcases hd with rfl | ⟨rfl, rfl⟩
  · rw [if_neg (show ¬ σ 157 4 = 10 by rw [hc, l_10, nI_inj (by omega) (by omega)]; omega)]
    exact x9_rem66 hM hn hc hc10
  · rw [if_pos (show σ 157 4 = 10 by rw [hc]; rfl), hc, l_1, nI_sub (by omega), Option.bind_some]
    unfold L_X9_remember_21
    rw [l_0]
    refine loop_k2 (F := B_X9_remember_21) 9 (fun k τ => (∀ r, r ≠ 157 → r ≠ 610 → ¬ (200 ≤ r ∧ r < 610) → τ r = σ r) ∧ (∀ k, k ≠ 4 → τ 157 k = σ 157 k) ∧ τ 157 4 = nI 9 ∧ (∀ m, m < 10 → τ 610 m = σ 610 (if m < k then m + 1 else m)) ∧ ∀ m x j, m < 10 → x < 40 → j < 4 → τ (201 + 41 * m + x) j = σ (201 + 41 * (if m < k then m + 1 else m) + x) j) _ (fun k τ hk hI => ?_) (fu := gN) (gN_gt (by decide)) ⟨fun r h1 _ _ => up_r h1, fun k hk => up_k hk, up_same _ _ _ _, fun m hm => ?_, fun m x j hm hx hj => ?_⟩
    · obtain ⟨h1, h2, h3, h4, h5⟩ := hI
      unfold B_X9_remember_21
      rw [h3]
      by_cases hkn : 9 ≤ k
      · have e : k = 9 := by omega
        subst e
        have hM' : rM τ P := rM_fr hM (fun r q1 q2 => h1 r (by omega) (by omega) (by omega))
        have hn' : τ 157 0 = nI n := by rw [h2 0 (by decide)]; exact hn
        obtain ⟨σ', s1, s2, s3, s4, s5, s6, s7, s8⟩ := x9_rem66 hM' hn' h3 (by decide)
        refine Or.inr ⟨σ', by rw [if_pos (by rw [nI_lei (by omega) (by omega)]; exact hkn), s1]; rfl, fun r q1 q2 q3 => by rw [s2 r q1 q2 q3]; exact h1 r q1 q2 q3, fun m hm => by rw [s3 m hm]; exact h2 m hm, s4, s5, fun m hm => ?_, s7, fun m x j hm hx hj => ?_⟩
        · rw [s6 m hm, h4 m (by omega), if_pos hm]
        · rw [s8 m x j hm hx hj, h5 m x j (by omega) hx hj, if_pos hm]
      · rw [if_neg (by rw [nI_lei (by omega) (by omega)]; exact hkn), l_1, nI_add, ld_610 (by omega), Option.bind_some, st_610 (by omega), Option.bind_some, ldr_199 (by omega), Option.bind_some, ldr_199 (by omega), Option.bind_some]
        obtain ⟨υ, t1, t2, t3⟩ := x9_copy (σ := up τ 610 k (τ 610 (k + 1))) (p0 := 200 + 41 * (k + 1)) (p1 := 200 + 41 * k) (b0 := 201 + 41 * (k + 1)) (b1 := 201 + 41 * k) (fun x hx => ldr_200 (by omega) hx) (fun x hx => ldr_200 (by omega) hx) (fun τ x j hx hj => ldw_201 (by omega) hx hj) (fun τ x j v hx hj => stw_201 (by omega) hx hj) (by omega)
        rw [t1, Option.bind_some]
        refine Or.inl ⟨υ, rfl, by omega, fun r q1 q2 q3 => ?_, fun m hm => ?_, ?_, fun m hm => ?_, fun m x j hm hx hj => ?_⟩
        · funext z
          rw [t3 r z (by omega), up_r q2, h1 r q1 q2 q3]
        · rw [t3 157 m (by omega), up_r (by decide), h2 m hm]
        · rw [t3 157 4 (by omega), up_r (by decide), h3]
        · rw [t3 610 m (by omega)]
          by_cases e : m = k
          · subst e
            rw [up_same, h4 _ (by omega), if_neg (by omega), if_pos (by omega)]
          · rw [up_k e, h4 m hm]
            by_cases e2 : m < k
            · rw [if_pos e2, if_pos (by omega)]
            · rw [if_neg e2, if_neg (by omega)]
        · by_cases e : m = k
          · subst e
            rw [t2 x j hx hj, up_r (by omega), h5 (m + 1) x j (by omega) hx hj, if_neg (by omega), if_pos (by omega)]
          · rw [t3 _ _ (by omega), up_r (by omega), h5 m x j hm hx hj]
            by_cases e2 : m < k
            · rw [if_pos e2, if_pos (by omega)]
            · rw [if_neg e2, if_neg (by omega)]
    · rw [up_r (by decide), if_neg (by omega)]
    · rw [up_r (by omega), if_neg (by omega)]
/-- the reference takes its latest change back -/
theorem x9_back {c m : Nat} (hc : σ 157 4 = nI (c + 1)) (hc10 : c < 10) (hm : σ 610 c = nI m) {P' : gP} (hP : ∀ x j, x < 40 → j < 4 → σ (201 + 41 * c + x) j = P' x j) : ∃ σ1 σ2, up (up σ 157 4 (nI c)) 157 0 (nI m) = σ1 ∧ f_X9_copy σ1 (200 + 41 * c) 158 = some σ2 ∧ rM σ2 P' ∧ (∀ r, r ≠ 157 → ¬ (159 ≤ r ∧ r < 199) → σ2 r = σ r) ∧ (∀ k, k ≠ 4 → k ≠ 0 → σ2 157 k = σ 157 k) ∧ σ2 157 4 = nI c ∧ σ2 157 0 = nI m := by
  obtain ⟨υ, t1, t2, t3⟩ := x9_copy (σ := up (up σ 157 4 (nI c)) 157 0 (nI m)) (p0 := 200 + 41 * c) (p1 := 158) (b0 := 201 + 41 * c) (b1 := 159) (fun x hx => ldr_200 hc10 hx) (fun x hx => ldr_158 hx) (fun τ x j hx hj => ldw_201 hc10 hx hj) (fun τ x j v hx hj => stw_159 hx hj) (by omega)
  refine ⟨_, υ, rfl, t1, fun x j hx hj => ?_, fun r h1 h2 => ?_, fun k h1 h2 => ?_, ?_, ?_⟩
  · rw [t2 x j hx hj, up_r (by omega), up_r (by omega)]
    exact hP x j hx hj
  · funext z
    rw [t3 r z (by omega), up_r h1, up_r h1]
  · rw [t3 157 k (by omega), up_k h2, up_k h1]
  · rw [t3 157 4 (by omega), up_k (by decide), up_same]
  · rw [t3 157 0 (by omega), up_same]
end
