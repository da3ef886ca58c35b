/-! THE CHANGES, both sides together -/
def iProg (σ : sg) (P : gP) (n : Nat) : Prop := rI σ P ∧ rM σ P ∧ pVs P ∧ σ 1 1 = nI n ∧ σ 157 0 = nI n ∧ n ≤ 40
def iBlk (σ : sg) (P : gP) (n : Nat) : Prop := σ 57 4 = tf (cmpl P n) ∧ (cmpl P n → BKI σ P n) ∧ (¬ cmpl P n → σ 57 3 = nI 0)
def iHist (σ : sg) (P : gP) (n : Nat) : Prop := ∃ c q : Nat, c ≤ 10 ∧ q < 10 ∧ σ 43 3 = nI q ∧ σ 43 4 = nI c ∧ σ 157 4 = nI c ∧ Hc σ c q P n
/-- the places that changes write -/
def chD (r k : Nat) : Prop := (1 ≤ r ∧ r ≤ 60) ∨ (r = 157 ∧ (k = 0 ∨ k = 4)) ∨ (158 ≤ r ∧ r ≤ 610)
def rowv (o d a b : Int32) (j : Nat) : Int32 := if j = 0 then o else if j = 1 then d else if j = 2 then a else b
def gset (P : gP) (i : Nat) (R : Nat → Int32) : gP := fun x j => if x = i then R j else P x j
def w4 (σ : sg) (r : Nat) (o d a b : Int32) : sg := up (up (up (up σ r 0 o) r 1 d) r 2 a) r 3 b
theorem w4_o {σ : sg} {r q : Nat} {o d a b : Int32} (h : q ≠ r) : w4 σ r o d a b q = σ q := by
  unfold w4; rw [up_r h, up_r h, up_r h, up_r h]
theorem w4_s {σ : sg} {r : Nat} {o d a b : Int32} {j : Nat} (hj : j < 4) : w4 σ r o d a b r j = rowv o d a b j := by
  unfold w4 rowv
  rcases (show j = 0 ∨ j = 1 ∨ j = 2 ∨ j = 3 by omega) with rfl | rfl | rfl | rfl
  · rw [up_k (by decide), up_k (by decide), up_k (by decide), up_same]; rfl
  · rw [up_k (by decide), up_k (by decide), up_same]; rfl
  · rw [up_k (by decide), up_same]; rfl
  · rw [up_same]; rfl
theorem x6_write {σ : sg} {i : Nat} {o d a b : Int32} (hi : i < 40) : f_X6_write σ (nI i) o d a b = some (w4 σ (3 + i) o d a b) := by
  unfold f_X6_write w4
  rw [ldr_2 hi, Option.bind_some, l_0, stw_3 hi (by decide), Option.bind_some, l_1, stw_3 hi (by decide), Option.bind_some, l_2, stw_3 hi (by decide), Option.bind_some, l_3, stw_3 hi (by decide), Option.bind_some]
theorem x9_put {σ : sg} {i : Nat} {o d a b : Int32} (hi : i < 40) : f_X9_put σ (nI i) o d a b = some (w4 σ (159 + i) o d a b) := by
  unfold f_X9_put w4
  rw [ldr_158 hi, Option.bind_some, l_0, stw_159 hi (by decide), Option.bind_some, Option.bind_some, l_1, stw_159 hi (by decide), Option.bind_some, Option.bind_some, l_2, stw_159 hi (by decide), Option.bind_some, Option.bind_some, l_3, stw_159 hi (by decide), Option.bind_some]
theorem pV_row {P : gP} {i : Nat} {o d a b : Int32} (h : vIns o.toInt d.toInt a.toInt b.toInt) (hV : pVs P) : pVs (gset P i (rowv o d a b)) := by
  intro x hx
  by_cases e : x = i
  · subst e
    refine pV_of ?_
    have g : ∀ j, gset P x (rowv o d a b) x j = rowv o d a b j := fun j => if_pos rfl
    rw [g, g, g, g]
    exact h
  · exact pV_c (fun j _ => if_neg e) (hV x hx)
section
variable {σ : sg} {P : gP} {n : Nat}
/-- what a change of row i does to the class -/
def chI (σ σ1 : sg) (P P' : gP) (n n' i q c : Nat) : Prop := rI σ1 P' ∧ σ1 1 1 = nI n' ∧ iBlk σ1 P' n' ∧ σ1 44 q = nI n ∧ σ1 45 q = nI i ∧ (∀ j, j < 4 → σ1 (47 + q) j = P i j) ∧ (∀ p, p < 10 → p ≠ q → σ1 44 p = σ 44 p ∧ σ1 45 p = σ 45 p ∧ ∀ j, j < 4 → σ1 (47 + p) j = σ (47 + p) j) ∧ σ1 43 3 = nI ((q + 1) % 10) ∧ σ1 43 4 = nI (min (c + 1) 10) ∧ ∀ r, (r = 0 ∨ 61 ≤ r) → σ1 r = σ r
theorem chI_of {s s2 : sg} {P' : gP} {n' q c i : Nat} (hI : rI σ P) (hn : σ 1 1 = nI n) (hq10 : q < 10) (hi : i < 40)
    (hs : (∀ r, r ≠ 43 → r ≠ 44 → r ≠ 45 → r ≠ 47 + q → s r = σ r) ∧ (∀ p, p ≠ q → s 44 p = σ 44 p ∧ s 45 p = σ 45 p) ∧ s 44 q = σ 1 1 ∧ s 45 q = nI i ∧ (∀ j, j < 4 → s (47 + q) j = σ (3 + i) j) ∧ s 43 3 = nI ((q + 1) % 10) ∧ s 43 4 = nI (min (c + 1) 10))
    (h2 : ∀ r, r ≠ 1 → r ≠ 3 + i → s2 r = s r) (hI2 : rI s2 P') (hn2 : s2 1 1 = nI n') (hV : pVs P') (hn40 : n' ≤ 40) : ∃ σ1, f_X1_cut s2 = some σ1 ∧ chI σ σ1 P P' n n' i q c := by
  obtain ⟨a1, a2, a3, a4, a5, a6, a7⟩ := hs
  obtain ⟨σ1, b1, b2, b3, b4, b5⟩ := x1_cut hI2 hn2 hn40 hV
  refine ⟨σ1, b1, rI_fr hI2 (fun r q1 q2 => b2 r (by omega) (by omega) (by omega) (by omega)), ?_, ⟨b3, b4, b5⟩, ?_, ?_, fun j hj => ?_, fun p hp1 hp2 => ⟨?_, ?_, fun j hj => ?_⟩, ?_, ?_, fun r hr => ?_⟩
  · rw [b2 1 (by decide) (by decide) (by decide) (by decide)]; exact hn2
  · rw [b2 44 (by decide) (by decide) (by decide) (by decide), h2 44 (by decide) (by omega), a3]; exact hn
  · rw [b2 45 (by decide) (by decide) (by decide) (by decide), h2 45 (by decide) (by omega)]; exact a4
  · rw [b2 (47 + q) (by omega) (by omega) (by omega) (by omega), h2 (47 + q) (by omega) (by omega), a5 j hj]; exact hI i j hi hj
  · rw [b2 44 (by decide) (by decide) (by decide) (by decide), h2 44 (by decide) (by omega)]; exact (a2 p hp2).1
  · rw [b2 45 (by decide) (by decide) (by decide) (by decide), h2 45 (by decide) (by omega)]; exact (a2 p hp2).2
  · rw [b2 (47 + p) (by omega) (by omega) (by omega) (by omega), h2 (47 + p) (by omega) (by omega), a1 (47 + p) (by omega) (by omega) (by omega) (by omega)]
  · rw [b2 43 (by decide) (by decide) (by decide) (by decide), h2 43 (by decide) (by omega)]; exact a6
  · rw [b2 43 (by decide) (by decide) (by decide) (by decide), h2 43 (by decide) (by omega)]; exact a7
  · rw [b2 r (by omega) (by omega) (by omega) (by omega), h2 r (by omega) (by omega), a1 r (by omega) (by omega) (by omega) (by omega)]
/-- what it does to the reference, d: whether the oldest change goes -/
def chM (σ σ2 : sg) (P P' : gP) (n n' c d : Nat) : Prop := rM σ2 P' ∧ σ2 157 0 = nI n' ∧ σ2 157 4 = nI (c + 1) ∧ σ2 610 c = nI n ∧ (∀ k, k < c → σ2 610 k = σ 610 (k + d)) ∧ (∀ x j, x < 40 → j < 4 → σ2 (201 + 41 * c + x) j = P x j) ∧ (∀ k x j, k < c → x < 40 → j < 4 → σ2 (201 + 41 * k + x) j = σ (201 + 41 * (k + d) + x) j) ∧ (∀ r, r < 157 ∨ 611 ≤ r → σ2 r = σ r) ∧ ∀ k, k ≠ 0 → k ≠ 4 → σ2 157 k = σ 157 k
theorem chM_of {s s2 : sg} {P' : gP} {n' c d i : Nat} (hi : i < 40) (hc10 : c < 10)
    (hs : (∀ r, r ≠ 157 → r ≠ 610 → ¬ (200 ≤ r ∧ r < 610) → s r = σ r) ∧ (∀ k, k ≠ 4 → s 157 k = σ 157 k) ∧ s 157 4 = nI (c + 1) ∧ s 610 c = nI n ∧ (∀ k, k < c → s 610 k = σ 610 (k + d)) ∧ (∀ x j, x < 40 → j < 4 → s (201 + 41 * c + x) j = P x j) ∧ ∀ k x j, k < c → x < 40 → j < 4 → s (201 + 41 * k + x) j = σ (201 + 41 * (k + d) + x) j)
    (h2 : ∀ r, r ≠ 157 → r ≠ 159 + i → s2 r = s r) (h3 : ∀ k, k ≠ 0 → s2 157 k = s 157 k) (hM2 : rM s2 P') (hn2 : s2 157 0 = nI n') : chM σ s2 P P' n n' c d := by
  obtain ⟨a1, a2, a3, a4, a5, a6, a7⟩ := hs
  refine ⟨hM2, hn2, ?_, ?_, fun k hk => ?_, fun x j hx hj => ?_, fun k x j hk hx hj => ?_, fun r hr => ?_, fun k k0 k4 => ?_⟩
  · rw [h3 4 (by decide)]; exact a3
  · rw [h2 610 (by decide) (by omega)]; exact a4
  · rw [h2 610 (by decide) (by omega)]; exact a5 k hk
  · rw [h2 _ (by omega) (by omega)]; exact a6 x j hx hj
  · rw [h2 _ (by omega) (by omega)]; exact a7 k x j hk hx hj
  · rw [h2 r (by omega) (by omega)]; exact a1 r (by omega) (by omega) (by omega)
  · rw [h3 k k0]; exact a2 k k4
/-- both together -/
theorem chg_ok {σ1 σ2 : sg} {P' : gP} {n' q c d i : Nat} (hp : iProg σ P n) (hq : σ 43 3 = nI q) (hq10 : q < 10) (hc10 : c < 10) (hd : d = 0 ∨ (d = 1 ∧ c = 9)) (hH : Hc σ (c + d) q P n) (hi : i < 40) (h1 : chI σ σ1 P P' n n' i q (c + d)) (h2 : chM σ1 σ2 P P' n n' c d) (hV' : pVs P') (hn' : n' ≤ 40) (hP' : ∀ x j, x < 40 → j < 4 → x ≠ i → P' x j = P x j) : iProg σ2 P' n' ∧ iBlk σ2 P' n' ∧ iHist σ2 P' n' ∧ ∀ r k, ¬ chD r k → σ2 r k = σ r k := by
  obtain ⟨hI, hM, hV, hn1, hn9, hn40⟩ := hp
  obtain ⟨a1, a2, a3, a4, a5, a6, a7, a8, a9, a10⟩ := h1
  obtain ⟨b1, b2, b3, b4, b5, b6, b7, b8, b9⟩ := h2
  have e1 : ∀ r, r < 157 → σ2 r = σ1 r := fun r hr => b8 r (Or.inl hr)
  refine ⟨⟨rI_fr a1 (fun r q1 q2 => e1 r (by omega)), b1, hV', by rw [e1 1 (by decide)]; exact a2, b2, hn'⟩, ?_, ⟨c + 1, (q + 1) % 10, by omega, by omega, by rw [e1 43 (by decide)]; exact a8, ?_, b3, ?_⟩, fun r k hr => ?_⟩
  · unfold iBlk BKI at a3 ⊢
    rw [e1 57 (by decide), e1 58 (by decide), e1 59 (by decide)]
    exact a3
  · rw [e1 43 (by decide), a9]
    congr 1
    omega
  · have hq9 : ((q + 1) % 10 + 9) % 10 = q := by omega
    have hR : ∀ x j, x < 40 → j < 4 → hRow σ2 q i P' x j = P x j := fun x j hx hj => by
      unfold hRow
      by_cases e : x = i
      · rw [if_pos ⟨e, hj⟩, e1 (47 + q) (by omega), a6 j hj, e]
      · rw [if_neg (fun z => e z.1)]; exact hP' x j hx hj e
    refine ⟨n, i, ?_, hn40, ?_, hi, ?_, b4, fun x j hx hj => ?_, ?_⟩
    · rw [hq9, e1 44 (by decide)]; exact a4
    · rw [hq9, e1 45 (by decide)]; exact a5
    · rw [hq9]; exact pVs_c hR hV
    · rw [hq9, hR x j hx hj]; exact b6 x j hx hj
    · rw [hq9]
      refine Hc_mv q d (fun p hp1 hp2 => ?_) c q P _ n hR (fun e e1 e2 => ⟨by omega, by omega⟩) (fun k hk => ?_) (fun k x j hk hx hj => ?_) hH
      · obtain ⟨z1, z2, z3⟩ := a7 p hp1 hp2
        rw [e1 44 (by decide), e1 45 (by decide), e1 (47 + p) (by omega)]
        exact ⟨z1, z2, z3⟩
      · rw [b5 k hk, a10 610 (by omega)]
      · rw [b7 k x j hk hx hj, a10 _ (by omega)]
  · unfold chD at hr
    by_cases c157 : r = 157
    · subst c157
      rw [b9 k (by omega) (by omega), a10 157 (by omega)]
    · rw [b8 r (by omega), a10 r (by omega)]
end
