/-! HISTORY: the class keeps one row a change, the reference whole programs; both go back to the same -/
theorem imin_nI {a b : Nat} (ha : a < 2147483648) (hb : b < 2147483648) : imin (nI a) (nI b) = nI (min a b) := by
  unfold imin
  by_cases h : b < a
  · rw [if_pos (by rw [nI_lti hb ha]; exact h), Nat.min_eq_right (by omega)]
  · rw [if_neg (by rw [nI_lti hb ha]; exact h), Nat.min_eq_left (by omega)]
theorem x9_copy {σ : sg} {p0 p1 b0 b1 : Nat} (h0 : ∀ x, x < 40 → ldr p0 (nI x) = some (b0 + x)) (h1 : ∀ x, x < 40 → ldr p1 (nI x) = some (b1 + x)) (l0 : ∀ (τ : sg) (x j : Nat), x < 40 → j < 4 → ld τ (b0 + x) (nI j) = some (τ (b0 + x) j)) (s1 : ∀ (τ : sg) (x j : Nat) (v : Int32), x < 40 → j < 4 → st τ (b1 + x) (nI j) v = some (up τ (b1 + x) j v)) (hd : b0 + 40 ≤ b1 ∨ b1 + 40 ≤ b0) : ∃ σ', f_X9_copy σ p0 p1 = some σ' ∧ (∀ x j, x < 40 → j < 4 → σ' (b1 + x) j = σ (b0 + x) j) ∧ ∀ r k, ¬ (b1 ≤ r ∧ r < b1 + 40 ∧ k < 4) → σ' r k = σ r k := by
  unfold f_X9_copy L_X9_copy_2
  rw [l_0]
  refine loop_k2 (F := B_X9_copy_2 p0 p1) 160 (fun k τ => (∀ x j, x < 40 → j < 4 → 4 * x + j < k → τ (b1 + x) j = σ (b0 + x) j) ∧ ∀ r k, ¬ (b1 ≤ r ∧ r < b1 + 40 ∧ k < 4) → τ r k = σ r k) _ (fun k τ hk hI => ?_) (fu := gN) (gN_gt (by decide)) ⟨fun x j _ _ h => absurd h (Nat.not_lt_zero _), fun _ _ _ => rfl⟩
  obtain ⟨h2, h3⟩ := hI
  unfold B_X9_copy_2
  by_cases hkn : 160 ≤ k
  · exact Or.inr ⟨τ, if_pos (by rw [l_160, nI_lei (by omega) (by omega)]; exact hkn), fun x j hx hj => h2 x j hx hj (by omega), h3⟩
  · rw [if_neg (by rw [l_160, nI_lei (by omega) (by omega)]; exact hkn), l_4, nI_mod (by omega) (by omega), nI_div (by omega) (by omega), h1 _ (by omega), Option.bind_some, h0 _ (by omega), Option.bind_some, l0 _ _ _ (by omega) (by omega), Option.bind_some, s1 _ _ _ _ (by omega) (by omega), Option.bind_some]
    refine Or.inl ⟨_, by rw [l_1, nI_add], by omega, fun x j hx hj hlt => ?_, fun r m hr => ?_⟩
    · by_cases e : x = k / 4 ∧ j = k % 4
      · obtain ⟨rfl, rfl⟩ := e
        rw [up_same]
        exact h3 _ _ (by omega)
      · rw [up_ne τ _ (by omega)]
        exact h2 x j hx hj (by omega)
    · rw [up_ne τ _ (by omega)]
      exact h3 r m hr
section
variable {σ : sg} {P : gP} {n : Nat}
/-- the class notes a change of row i at place q -/
theorem x3_rem {q c i : Nat} (hq : σ 43 3 = nI q) (hq10 : q < 10) (hc : σ 43 4 = nI c) (hc10 : c ≤ 10) (hi : i < 40) : ∃ σ', f_X3_remember σ (nI i) = some σ' ∧ (∀ r, r ≠ 43 → r ≠ 44 → r ≠ 45 → r ≠ 47 + q → σ' r = σ r) ∧ (∀ p, p ≠ q → σ' 44 p = σ 44 p ∧ σ' 45 p = σ 45 p) ∧ σ' 44 q = σ 1 1 ∧ σ' 45 q = nI i ∧ (∀ j, j < 4 → σ' (47 + q) j = σ (3 + i) j) ∧ σ' 43 3 = nI ((q + 1) % 10) ∧ σ' 43 4 = nI (min (c + 1) 10) := by
  unfold f_X3_remember
  rw [hq, st_44 hq10, Option.bind_some, show up σ 44 q (σ 1 1) 43 3 = nI q by rw [up_r (by decide)]; exact hq, st_45 hq10, Option.bind_some, ldr_2 hi, Option.bind_some, show up (up σ 44 q (σ 1 1)) 45 q (nI i) 43 3 = nI q by rw [up_r (by decide), up_r (by decide)]; exact hq, ldr_46 hq10, Option.bind_some, l_0, l_4, cp_of (shr_3 hi) (shr_47 hq10) (by omega) (by decide) (by decide) (by decide), Option.bind_some]
  generalize hs : (fun r' => if r' = 47 + q then fun k => if k < 4 then up (up σ 44 q (σ 1 1)) 45 q (nI i) (3 + i) k else up (up σ 44 q (σ 1 1)) 45 q (nI i) (47 + q) k else up (up σ 44 q (σ 1 1)) 45 q (nI i) r' : sg) = s
  have g1 : ∀ r, r ≠ 47 + q → s r = up (up σ 44 q (σ 1 1)) 45 q (nI i) r := fun r hr => by rw [← hs]; exact if_neg hr
  have g2 : ∀ j, j < 4 → s (47 + q) j = σ (3 + i) j := fun j hj => by
    rw [← hs]
    show (if 47 + q = 47 + q then fun k => if k < 4 then up (up σ 44 q (σ 1 1)) 45 q (nI i) (3 + i) k else up (up σ 44 q (σ 1 1)) 45 q (nI i) (47 + q) k else up (up σ 44 q (σ 1 1)) 45 q (nI i) (47 + q)) j = _
    rw [if_pos rfl]
    show (if j < 4 then _ else _) = _
    rw [if_pos hj, up_r (by omega), up_r (by omega)]
  have e3 : s 43 3 = nI q := by rw [g1 43 (by omega), up_r (by decide), up_r (by decide)]; exact hq
  have e4 : s 43 4 = nI c := by rw [g1 43 (by omega), up_r (by decide), up_r (by decide)]; exact hc
  rw [e3, l_1, nI_add, l_10, nI_mod (by omega) (by omega), Option.bind_some, show up s 43 3 (nI ((q + 1) % 10)) 43 4 = nI c by rw [up_k (by decide)]; exact e4, nI_add, imin_nI (by omega) (by omega), Option.bind_some]
  refine ⟨_, rfl, fun r n1 n2 n3 n4 => ?_, fun p hp => ⟨?_, ?_⟩, ?_, ?_, fun j hj => ?_, ?_, ?_⟩
  · rw [up_r n1, up_r n1, g1 r n4, up_r n3, up_r n2]
  · rw [up_r (by decide), up_r (by decide), g1 44 (by omega), up_r (by decide), up_k hp]
  · rw [up_r (by decide), up_r (by decide), g1 45 (by omega), up_k hp, up_r (by decide)]
  · rw [up_r (by decide), up_r (by decide), g1 44 (by omega), up_r (by decide), up_same]
  · rw [up_r (by decide), up_r (by decide), g1 45 (by omega), up_same]
  · rw [up_r (by omega), up_r (by omega)]; exact g2 j hj
  · rw [up_k (by decide), up_same]
  · rw [up_same]
/-- the class takes its latest change back -/
theorem x3_back {q c i m : Nat} (hq : σ 43 3 = nI q) (hq10 : q < 10) (hc : σ 43 4 = nI (c + 1)) (hc10 : c < 10) (hi : σ 45 ((q + 9) % 10) = nI i) (hi40 : i < 40) (hm : σ 44 ((q + 9) % 10) = nI m) : ∃ σ', f_X3_takeBack σ = some σ' ∧ (∀ r, r ≠ 43 → r ≠ 1 → r ≠ 3 + i → σ' r = σ r) ∧ (∀ j, j < 4 → σ' (3 + i) j = σ (47 + (q + 9) % 10) j) ∧ σ' 1 1 = nI m ∧ σ' 43 3 = nI ((q + 9) % 10) ∧ σ' 43 4 = nI c := by
  unfold f_X3_takeBack
  have h9 : q + 10 - 1 = q + 9 := by omega
  rw [hq, l_10, nI_add, l_1, nI_sub (by omega), h9, nI_mod (by omega) (by omega), Option.bind_some, show up σ 43 3 (nI ((q + 9) % 10)) 43 4 = nI (c + 1) by rw [up_k (by decide)]; exact hc, nI_sub (by omega), Nat.add_sub_cancel, Option.bind_some]
  generalize hp : (q + 9) % 10 = p at *
  have hp10 : p < 10 := by omega
  rw [show up (up σ 43 3 (nI p)) 43 4 (nI c) 43 3 = nI p by rw [up_k (by decide), up_same], ldr_46 hp10, Option.bind_some, ld_45 hp10, Option.bind_some, show up (up σ 43 3 (nI p)) 43 4 (nI c) 45 p = nI i by rw [up_r (by decide), up_r (by decide)]; exact hi, ldr_2 hi40, Option.bind_some, l_0, l_4, cp_of (shr_47 hp10) (shr_3 hi40) (by omega) (by decide) (by decide) (by decide), Option.bind_some]
  generalize hs : (fun r' => if r' = 3 + i then fun k => if k < 4 then up (up σ 43 3 (nI p)) 43 4 (nI c) (47 + p) k else up (up σ 43 3 (nI p)) 43 4 (nI c) (3 + i) k else up (up σ 43 3 (nI p)) 43 4 (nI c) r' : sg) = s
  have g1 : ∀ r, r ≠ 3 + i → s r = up (up σ 43 3 (nI p)) 43 4 (nI c) r := fun r hr => by rw [← hs]; exact if_neg hr
  have g2 : ∀ j, j < 4 → s (3 + i) j = σ (47 + p) j := fun j hj => by
    rw [← hs]
    show (if 3 + i = 3 + i then fun k => if k < 4 then up (up σ 43 3 (nI p)) 43 4 (nI c) (47 + p) k else up (up σ 43 3 (nI p)) 43 4 (nI c) (3 + i) k else up (up σ 43 3 (nI p)) 43 4 (nI c) (3 + i)) j = _
    rw [if_pos rfl]
    show (if j < 4 then _ else _) = _
    rw [if_pos hj, up_r (by omega), up_r (by omega)]
  have e3 : s 43 3 = nI p := by rw [g1 43 (by omega), up_k (by decide), up_same]
  rw [e3, ld_44 hp10, Option.bind_some, g1 44 (by omega), up_r (by decide), up_r (by decide), hm, Option.bind_some]
  refine ⟨_, rfl, fun r n1 n2 n3 => ?_, fun j hj => ?_, ?_, ?_, ?_⟩
  · rw [up_r n2, g1 r n3, up_r n1, up_r n1]
  · rw [up_r (by omega)]; exact g2 j hj
  · rw [up_same]
  · rw [up_r (by decide)]; exact e3
  · rw [up_r (by decide), g1 43 (by omega), up_same]
/-- what both sides remember: c changes, the class's latest one at (q + 9) % 10, the reference's at c - 1 -/
def hRow (σ : sg) (p i : Nat) (P : gP) : gP := fun x j => if x = i ∧ j < 4 then σ (47 + p) j else P x j
def Hc (σ : sg) : Nat → Nat → gP → Nat → Prop
  | 0, _, _, _ => True
  | c + 1, q, P, _ => ∃ m i : Nat, σ 44 ((q + 9) % 10) = nI m ∧ m ≤ 40 ∧ σ 45 ((q + 9) % 10) = nI i ∧ i < 40 ∧ pVs (hRow σ ((q + 9) % 10) i P) ∧ σ 610 c = nI m ∧ (∀ x j, x < 40 → j < 4 → σ (201 + 41 * c + x) j = hRow σ ((q + 9) % 10) i P x j) ∧ Hc σ c ((q + 9) % 10) (hRow σ ((q + 9) % 10) i P) m
theorem Hc_n (c q : Nat) (m : Nat) (h : Hc σ c q P n) : Hc σ c q P m := by
  cases c with
  | zero => trivial
  | succ c => exact h
theorem hRow_c {σ σ' : sg} {p i : Nat} {P P' : gP} (h : ∀ j, j < 4 → σ' (47 + p) j = σ (47 + p) j) (e : ∀ x j, x < 40 → j < 4 → P' x j = P x j) : ∀ x j, x < 40 → j < 4 → hRow σ' p i P' x j = hRow σ p i P x j := by
  intro x j hx hj
  unfold hRow
  by_cases c : x = i ∧ j < 4
  · rw [if_pos c, if_pos c]; exact h j hj
  · rw [if_neg c, if_neg c]; exact e x j hx hj
theorem pV_c {P P' : gP} {i : Nat} (e : ∀ j, j < 4 → P' i j = P i j) (h : pV P i) : pV P' i := by
  unfold pV pop pd pa pb at h ⊢
  rw [e 0 (by decide), e 1 (by decide), e 2 (by decide), e 3 (by decide)]
  exact h
theorem pVs_c {P P' : gP} (e : ∀ x j, x < 40 → j < 4 → P' x j = P x j) (h : pVs P) : pVs P' := fun i hi => pV_c (fun j hj => e i j hi hj) (h i hi)
/-- the same history in another state: the class's places but z, the reference's d further on -/
theorem Hc_mv {σ σ' : sg} (z d : Nat) (hs : ∀ p, p < 10 → p ≠ z → σ' 44 p = σ 44 p ∧ σ' 45 p = σ 45 p ∧ ∀ j, j < 4 → σ' (47 + p) j = σ (47 + p) j) : ∀ (c q : Nat) (P P' : gP) (n : Nat), (∀ x j, x < 40 → j < 4 → P' x j = P x j) → (∀ e, 1 ≤ e → e ≤ c → e ≤ 9 ∧ (q + 10 - e) % 10 ≠ z) → (∀ k, k < c → σ' 610 k = σ 610 (k + d)) → (∀ k x j, k < c → x < 40 → j < 4 → σ' (201 + 41 * k + x) j = σ (201 + 41 * (k + d) + x) j) → Hc σ (c + d) q P n → Hc σ' c q P' n := by
  intro c
  induction c with
  | zero => intros; trivial
  | succ c ih =>
    intro q P P' n hP hz h1 h2 h
    rw [show c + 1 + d = (c + d) + 1 by omega] at h
    obtain ⟨m, i, a1, a2, a3, a4, a5, a6, a7, a8⟩ := h
    obtain ⟨z1, z2⟩ := hz 1 (by omega) (by omega)
    have e9 : (q + 10 - 1) % 10 = (q + 9) % 10 := by congr 1
    rw [e9] at z2
    generalize hp : (q + 9) % 10 = p at *
    have hp10 : p < 10 := by omega
    obtain ⟨s1, s2, s3⟩ := hs p hp10 z2
    have hc := hRow_c (i := i) s3 hP
    refine ⟨m, i, ?_, a2, ?_, a4, ?_, ?_, ?_, ?_⟩
    · rw [hp, s1]; exact a1
    · rw [hp, s2]; exact a3
    · rw [hp]; exact pVs_c hc a5
    · rw [h1 c (by omega)]; exact a6
    · intro x j hx hj
      rw [hp, h2 c x j (by omega) hx hj, hc x j hx hj]
      exact a7 x j hx hj
    · rw [hp]
      refine ih p _ _ m hc (fun e e1 e2 => ?_) (fun k hk => h1 k (by omega)) (fun k x j hk => h2 k x j (by omega)) a8
      obtain ⟨y1, y2⟩ := hz (e + 1) (by omega) (by omega)
      exact ⟨by omega, by omega⟩
end
