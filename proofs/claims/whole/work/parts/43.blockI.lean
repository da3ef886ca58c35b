/-! A BLOCK OF THE CLASS -/
/-- the class after k bundles of a block -/
def bkI (P : gP) (b e : Nat) (T : Nat → Nat → Nat) (M : Nat → Nat) (tc c0 blk : Nat) (a : AB) (σ0 : sg) (k : Nat) (τ : sg) : Prop := τ 75 11 = nI (c0 + k) ∧ (∀ i, b ≤ i → i < (abN P b e T M tc c0 a k).1.1 → τ 73 i = nI ((abN P b e T M tc c0 a k).1.2.2.1 i)) ∧ plI τ (abN P b e T M tc c0 a k).2.1 ∧ τ 142 blk = nI (abN P b e T M tc c0 a k).2.2 ∧ (∀ m, m < k → τ 137 (c0 + m) = nI (tmB P b e T M tc (abN P b e T M tc c0 a m)) ∧ τ 138 (c0 + m) = nI blk ∧ ∀ j, j < 3 → τ (77 + (c0 + m)) j = (abN P b e T M tc c0 a (m + 1)).1.2.2.2 j) ∧ (∀ m, m < c0 → τ 137 m = σ0 137 m ∧ τ 138 m = σ0 138 m ∧ τ (77 + m) = σ0 (77 + m)) ∧ (∀ r, ¬ (72 ≤ r ∧ r ≤ 142) → τ r = σ0 r) ∧ (∀ r, r < 72 → τ r = σ0 r) ∧ (∀ j, j ≠ 6 → j ≠ 7 → τ 72 j = σ0 72 j) ∧ (∀ j, j ≠ 11 → τ 75 j = σ0 75 j) ∧ ∀ j, j ≠ blk → τ 142 j = σ0 142 j
section
variable {σ : sg} {P : gP} {b e : Nat} {T : Nat → Nat → Nat} {M : Nat → Nat} {tc : Nat}
theorem x5_99 {e x : Nat} {τ : sg} (h5 : τ 72 5 = nI e) (he : e < 1000) (hx : x < 1000) : J_X5_takeBlock_99 (nI x) τ = some (tf (e ≤ x), τ) := by
  unfold J_X5_takeBlock_99
  rw [h5]
  by_cases h : x < e
  · rw [if_pos (show nI x < nI e by rw [nI_lti (by omega) (by omega)]; exact h), tf_f (by omega)]; rfl
  · rw [if_neg (show ¬ nI x < nI e by rw [nI_lti (by omega) (by omega)]; exact h), tf_t (by omega)]; rfl
theorem x5_blk {c0 blk : Nat} {a : AB} (hI : rI σ P) (hV : pVs P) (htc : σ 61 2 = nI tc) (h8 : tc ≤ 8) (h0 : 0 < tc) (ht : ∀ t, t < tc → tpI σ t (T t) (M t)) (h4 : σ 72 4 = nI b) (h5 : σ 72 5 = nI e) (he : e ≤ 40) (hb : blk < 40) (h11 : σ 75 11 = nI c0) (hc0 : c0 ≤ 60) (ha : a.1.1 = b) (ha2 : a.1.2.1 = 0) (hbe : b ≤ e) (hPL : plI σ a.2.1) (ha3 : a.2.2 = 0) : ∃ (k : Nat) (σ' : sg) (v : Int32), f_X5_takeBlock σ (nI blk) = some (v, σ') ∧ (∀ j, j < k → ¬ endP P b e T M tc c0 a j) ∧ endP P b e T M tc c0 a k ∧ v = tf (stpP e (c0 + k) (abN P b e T M tc c0 a k) ∧ e ≤ (abN P b e T M tc c0 a k).1.1) ∧ bkI P b e T M tc c0 blk a σ k σ' := by
  have hok0 : okFS b e 0 a.1 := ⟨by omega, by omega, by omega, fun i k q1 q2 q3 => absurd q3 (by omega), fun i q1 q2 => absurd q2 (by omega)⟩
  unfold f_X5_takeBlock L_X5_takeBlock_24
  rw [l_0, st_142 hb, Option.bind_some, h4, up_r (show 75 ≠ 142 by decide), h11]
  refine Exists.elim (loop_c4 (F := B_X5_takeBlock_24 (nI blk)) (60 - c0) (fun k x3 x4 x5 τ => x3 = nI (abN P b e T M tc c0 a k).1.1 ∧ x4 = nI (abN P b e T M tc c0 a k).1.2.1 ∧ x5 = nI (60 - c0 - k) ∧ (∀ j, j < k → ¬ endP P b e T M tc c0 a j) ∧ bkI P b e T M tc c0 blk a σ k τ) (fun z => ∃ k, (∀ j, j < k → ¬ endP P b e T M tc c0 a j) ∧ endP P b e T M tc c0 a k ∧ z.1 = tf (stpP e (c0 + k) (abN P b e T M tc c0 a k) ∧ e ≤ (abN P b e T M tc c0 a k).1.1) ∧ bkI P b e T M tc c0 blk a σ k z.2) (fun k x3 x4 x5 τ hk hR => ?_) (fu := gN) (gN_gt (by omega)) (a := nI b) (b := nI 0) (c := 60 - nI c0) (d := up σ 142 blk (nI 0)) ⟨(congrArg nI ha).symm, (congrArg nI ha2).symm, by rw [show (60 : Int32) = nI 60 from rfl, nI_sub hc0]; rfl, fun j hj => absurd hj (Nat.not_lt_zero j), ?_⟩) (fun z hz => ?_)
  · obtain ⟨rfl, rfl, rfl, hne, hB⟩ := hR
    obtain ⟨b11, b73, bP, b42, bm, bo, br, br2, b72, b75, b142⟩ := id hB
    obtain ⟨A, hA⟩ : ∃ A, A = abN P b e T M tc c0 a k := ⟨_, rfl⟩
    have hokA : okFS b e (3 * k) A.1 := by rw [hA]; exact abN_ok hok0 k
    have t5 : τ 72 5 = nI e := by rw [b72 5 (by decide) (by decide)]; exact h5
    have t4 : τ 72 4 = nI b := by rw [b72 4 (by decide) (by decide)]; exact h4
    rw [← hA] at b73 bP b42
    rw [← hA]
    have hA40 : A.1.1 ≤ 40 := Nat.le_trans hokA.2.1 he
    unfold B_X5_takeBlock_24
    by_cases k60 : k = 60 - c0
    · refine Or.inr ⟨(tf (e ≤ A.1.1), τ), by rw [if_pos (show nI (60 - c0 - k) ≤ 0 by rw [show 60 - c0 - k = 0 by omega]; decide), x5_99 t5 (by omega) (by omega)]; rfl, k, hne, Or.inl (Or.inl (by omega)), tf_c ⟨fun q => ⟨Or.inl (by omega), by rw [← hA]; exact q⟩, fun q => by rw [hA]; exact q.2⟩, hB⟩
    rw [if_neg (show ¬ nI (60 - c0 - k) ≤ 0 by rw [l_0, nI_lei (by omega) (by decide)]; omega), t5]
    by_cases ke : e ≤ A.1.1
    · refine Or.inr ⟨(tf (e ≤ A.1.1), τ), by rw [if_pos (show nI e ≤ nI A.1.1 by rw [nI_lei (by omega) (by omega)]; exact ke), x5_99 t5 (by omega) (by omega)]; rfl, k, hne, Or.inl (Or.inr (by rw [← hA]; exact ke)), tf_c ⟨fun q => ⟨Or.inr (by rw [← hA]; exact q), by rw [← hA]; exact q⟩, fun q => by rw [hA]; exact q.2⟩, hB⟩
    rw [if_neg (show ¬ nI e ≤ nI A.1.1 by rw [nI_lei (by omega) (by omega)]; exact ke)]
    have nst : ¬ stpP e (c0 + k) A := fun q => q.elim (by omega) ke
    have hIτ : rI τ P := rI_fr hI (fun r q1 q2 => br2 r (by omega))
    have tpτ : ∀ t, t < tc → tpI τ t (T t) (M t) := fun t h => by
      obtain ⟨a1, a2, a3, a4⟩ := ht t h
      exact ⟨a1, by rw [br2 71 (by decide)]; exact a2, a3, fun j hj => by rw [br2 (63 + t) (by omega)]; exact a4 j hj⟩
    obtain ⟨σ1, c1, c73, crr, c72⟩ := x2_chosen (b := b) (e := e) hIτ hV (by rw [br2 61 (by decide)]; exact htc) h8 tpτ t4 t5 he (B := 3 * k) (by omega) hokA b73
    obtain ⟨tq, ht1, ht2⟩ : ∃ t, chF P b e T M A.1 tc = some t ∧ t < tc := by
      obtain ⟨m, rfl⟩ : ∃ m, tc = m + 1 := ⟨tc - 1, by omega⟩
      exact chs_some
    have htm : tmB P b e T M tc A = tq := by
      unfold tmB
      rw [ht1]
      rfl
    have hfs : fsB P b e T M tc A = fsN P b e (T tq) (M tq) 3 A.1 := by
      unfold fsB
      rw [htm]
    rw [c1, Option.bind_some, ht1]
    have tp1 : tpI σ1 tq (T tq) (M tq) := by
      obtain ⟨a1, a2, a3, a4⟩ := tpτ tq ht2
      exact ⟨a1, by rw [crr 71 (by decide) (by decide) (by decide)]; exact a2, a3, fun j hj => by rw [crr (63 + tq) (by omega) (by omega) (by omega)]; exact a4 j hj⟩
    obtain ⟨σ2, d1, d6, d7, d73, d74, drr, d72⟩ := x2_fill (b := b) (e := e) (rI_fr hIτ (fun r q1 q2 => crr r (by omega) (by omega) (by omega))) hV tp1 (by rw [c72 4 (by decide) (by decide)]; exact t4) (by rw [c72 5 (by decide) (by decide)]; exact t5) he (B := 3 * k) (by omega) hokA c73
    have e2 : ∀ r, r ≠ 72 → r ≠ 73 → r ≠ 74 → σ2 r = τ r := fun r q1 q2 q3 => by rw [drr r q1 q2 q3, crr r q1 q2 q3]
    have e72 : ∀ j, j ≠ 6 → j ≠ 7 → σ2 72 j = τ 72 j := fun j q1 q2 => by rw [d72 j q1 q2, c72 j q1 q2]
    rw [show nI ((some tq).getD 0) = nI tq from rfl, d1, Option.bind_some]
    rw [← hfs] at d6 d7 d73 d74
    have hokB : okFS b e (3 * k + 3) (fsB P b e T M tc A) := by rw [hfs]; exact okFS_N 3 hokA
    have hBle : (fsB P b e T M tc A).1 ≤ 40 := Nat.le_trans hokB.2.1 he
    have hgle : (fsB P b e T M tc A).2.1 ≤ 3 * k + 3 := hokB.2.2.1
    have hgA : A.1.2.1 ≤ 3 * k := hokA.2.2.1
    have go : ¬ stkP P b e T M tc A → ∃ a' b' c' d', J_X5_takeBlock_74 (nI blk) (nI (60 - c0 - k)) (nI tq) σ2 = some (.inl (a', b', c', d')) ∧ k < 60 - c0 ∧ a' = nI (abN P b e T M tc c0 a (k + 1)).1.1 ∧ b' = nI (abN P b e T M tc c0 a (k + 1)).1.2.1 ∧ c' = nI (60 - c0 - (k + 1)) ∧ (∀ j, j < k + 1 → ¬ endP P b e T M tc c0 a j) ∧ bkI P b e T M tc c0 blk a σ (k + 1) d' := fun nsk => by
      have hnext : abN P b e T M tc c0 a (k + 1) = ab1 P b e T M tc (c0 + k) A := by rw [hA]; rfl
      have hsv : slV (fsB P b e T M tc A).2.2.2 (fsB P b e T M tc A).2.2.1 := by rw [hfs]; exact fs_slV he (by omega) hokA
      have hcyl : A.2.2 < 2000 := by rw [hA]; exact abN_cy he hok0 (by rw [ha3]; decide) k (by omega)
      obtain ⟨σ3, f1, f11, fP, f77, f137, f138, f142, ft, frr, f75, f42⟩ := x5_take (t := tq) (rI_fr hIτ (fun r q1 q2 => e2 r (by omega) (by omega) (by omega))) hV (c := c0 + k) (by rw [e2 75 (by decide) (by decide) (by decide)]; exact b11) (by omega) hb d74 hsv (fun j i hj hi hji => by
        rcases fs_sl (P := P) (b := b) (e := e) (ty := T tq) (m := M tq) (s0 := A.1) 3 j hj with h | ⟨x, x1, x2, x3⟩
        · rw [← hfs, hji] at h; exact absurd h (mI_ne (by decide) (by decide) (by omega))
        · rw [← hfs] at x2 x3
          have : x = i := by
            rw [hji, nI_inj (by omega) (by omega)] at x3
            exact x3.symm
          subst this
          exact d73 x (Nat.le_trans hokA.1 x1) x2) (by
        intro i hi
        rw [e2 139 (by decide) (by decide) (by decide), e2 140 (by decide) (by decide) (by decide), e2 141 (by decide) (by decide) (by decide)]
        exact bP i hi) (by rw [e2 142 (by decide) (by decide) (by decide)]; exact b42) hcyl
      unfold J_X5_takeBlock_74
      rw [f1, Option.bind_some]
      refine ⟨_, _, _, _, rfl, by omega, ?_, ?_, ?_, fun j hj => ?_, ?_⟩
      · rw [hnext, frr 72 (by decide) (by omega) (by omega), d6]; rfl
      · rw [hnext, frr 72 (by decide) (by omega) (by omega), d7]; rfl
      · rw [add_m1, show 60 - c0 - k = (60 - c0 - (k + 1)) + 1 by omega, dec_nI]
      · by_cases ej : j = k
        · rw [ej]
          intro q
          unfold endP at q
          rw [← hA] at q
          exact q.elim nst nsk
        · exact hne j (by omega)
      · refine ⟨f11, fun i q1 q2 => ?_, ?_, ?_, fun m hm => ?_, fun m hm => ?_, fun r hr => ?_, fun r hr => ?_, fun j q1 q2 => ?_, fun j hj => ?_, fun j hj => ?_⟩
        · rw [hnext] at q2 ⊢
          rw [frr 73 (by decide) (by omega) (by omega)]
          exact d73 i q1 q2
        · rw [hnext]; exact fP
        · rw [hnext]; exact f142
        · by_cases em : m = k
          · subst em
            rw [f137, f138, ← hA, htm, hnext]
            exact ⟨rfl, rfl, fun j hj => f77 j hj⟩
          · obtain ⟨z1, z2, z3⟩ := bm m (by omega)
            rw [(ft (c0 + m) (by omega)).1, (ft (c0 + m) (by omega)).2, frr (77 + (c0 + m)) (by omega) (by omega) (by omega), e2 137 (by decide) (by decide) (by decide), e2 138 (by decide) (by decide) (by decide), e2 (77 + (c0 + m)) (by omega) (by omega) (by omega)]
            exact ⟨z1, z2, z3⟩
        · obtain ⟨z1, z2, z3⟩ := bo m hm
          rw [(ft m (by omega)).1, (ft m (by omega)).2, frr (77 + m) (by omega) (by omega) (by omega), e2 137 (by decide) (by decide) (by decide), e2 138 (by decide) (by decide) (by decide), e2 (77 + m) (by omega) (by omega) (by omega)]
          exact ⟨z1, z2, z3⟩
        · rw [frr r (by omega) (by omega) (by omega), e2 r (by omega) (by omega) (by omega)]; exact br r hr
        · rw [frr r (by omega) (by omega) (by omega), e2 r (by omega) (by omega) (by omega)]; exact br2 r hr
        · rw [frr 72 (by decide) (by omega) (by omega), e72 j q1 q2]; exact b72 j q1 q2
        · rw [f75 j hj, e2 75 (by decide) (by decide) (by decide)]; exact b75 j hj
        · rw [f42 j hj, e2 142 (by decide) (by decide) (by decide)]; exact b142 j hj
    by_cases s1 : (fsB P b e T M tc A).1 = A.1.1
    · rw [if_pos (show σ2 72 6 = nI A.1.1 by rw [d6, s1])]
      by_cases s2 : (fsB P b e T M tc A).2.1 = A.1.2.1
      · rw [if_pos (show σ2 72 7 = nI A.1.2.1 by rw [d7, s2])]
        refine Or.inr ⟨_, rfl, k, hne, Or.inr (by rw [← hA]; exact Or.inr ⟨s1, s2⟩), (tf_f (fun q => by rw [← hA] at q; exact nst q.1)).symm, ?_⟩
        show bkI P b e T M tc c0 blk a σ k σ2
        refine ⟨by rw [e2 75 (by decide) (by decide) (by decide)]; exact b11, fun i q1 q2 => ?_, fun i hi => ?_, ?_, fun m hm => ?_, fun m hm => ?_, fun r hr => ?_, fun r hr => ?_, fun j q1 q2 => ?_, fun j hj => ?_, fun j hj => ?_⟩
        · rw [← hA] at q2 ⊢
          rw [d73 i q1 (by omega), hfs, fsN_g 3 q2]
        · rw [← hA, e2 139 (by decide) (by decide) (by decide), e2 140 (by decide) (by decide) (by decide), e2 141 (by decide) (by decide) (by decide)]
          exact bP i hi
        · rw [← hA, e2 142 (by decide) (by decide) (by decide)]; exact b42
        · rw [e2 137 (by decide) (by decide) (by decide), e2 138 (by decide) (by decide) (by decide), e2 (77 + (c0 + m)) (by omega) (by omega) (by omega)]
          exact bm m hm
        · rw [e2 137 (by decide) (by decide) (by decide), e2 138 (by decide) (by decide) (by decide), e2 (77 + m) (by omega) (by omega) (by omega)]
          exact bo m hm
        · rw [e2 r (by omega) (by omega) (by omega)]; exact br r hr
        · rw [e2 r (by omega) (by omega) (by omega)]; exact br2 r hr
        · rw [e72 j q1 q2]; exact b72 j q1 q2
        · rw [e2 75 (by decide) (by decide) (by decide)]; exact b75 j hj
        · rw [e2 142 (by decide) (by decide) (by decide)]; exact b142 j hj
      · rw [if_neg (show ¬ σ2 72 7 = nI A.1.2.1 by rw [d7, nI_inj (by omega) (by omega)]; exact s2)]
        exact Or.inl (go (fun q => q.elim (by omega) (fun w => s2 w.2)))
    · rw [if_neg (show ¬ σ2 72 6 = nI A.1.1 by rw [d6, nI_inj (by omega) (by omega)]; exact s1)]
      exact Or.inl (go (fun q => q.elim (by omega) (fun w => s1 w.1)))
  · refine ⟨by rw [up_r (by decide)]; exact h11, fun i q1 q2 => absurd q2 (by show ¬ i < a.1.1; omega), fun i hi => by rw [up_r (by decide), up_r (by decide), up_r (by decide)]; exact hPL i hi, by rw [up_same]; exact congrArg nI ha3.symm, fun m hm => absurd hm (Nat.not_lt_zero m), fun m hm => ⟨by rw [up_r (by decide)], by rw [up_r (by decide)], by rw [up_r (by omega)]⟩, fun r hr => up_r (by omega), fun r hr => up_r (by omega), fun j _ _ => by rw [up_r (by decide)], fun j _ => by rw [up_r (by decide)], fun j hj => up_k hj⟩
  · obtain ⟨z1, k, z2, z3, z4, z5⟩ := hz
    exact ⟨k, z.2, z.1, z1, z2, z3, z4, z5⟩
end
