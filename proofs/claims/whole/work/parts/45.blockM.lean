/-! A BLOCK OF THE REFERENCE -/
/-- the reference after k bundles of a block -/
def bkM (P : gP) (b e : Nat) (T : Nat → Nat → Nat) (M : Nat → Nat) (tc c0 blk : Nat) (a : AB) (σ0 : sg) (k : Nat) (τ : sg) : Prop := τ 157 17 = nI (c0 + k) ∧ (∀ i, b ≤ i → i < (abN P b e T M tc c0 a k).1.1 → τ 623 i = nI ((abN P b e T M tc c0 a k).1.2.2.1 i)) ∧ plM τ (abN P b e T M tc c0 a k).2.1 ∧ (∀ m, m < k → τ 727 (c0 + m) = nI (tmB P b e T M tc (abN P b e T M tc c0 a m)) ∧ τ 728 (c0 + m) = nI blk ∧ ∀ j, j < 3 → τ (626 + (c0 + m)) j = (abN P b e T M tc c0 a (m + 1)).1.2.2.2 j) ∧ (∀ m, m < c0 → τ 727 m = σ0 727 m ∧ τ 728 m = σ0 728 m ∧ τ (626 + m) = σ0 (626 + m)) ∧ (∀ r, r ≠ 157 → ¬ (623 ≤ r ∧ r ≤ 728) → τ r = σ0 r) ∧ ∀ j, j ≠ 13 → j ≠ 14 → j ≠ 15 → j ≠ 17 → τ 157 j = σ0 157 j
section
variable {σ : sg} {P : gP} {b e : Nat} {T : Nat → Nat → Nat} {M : Nat → Nat} {tc : Nat}
theorem bkM_fr {c0 blk k : Nat} {a : AB} {σ0 τ τ' : sg} (hc : c0 + k ≤ 60) (h : bkM P b e T M tc c0 blk a σ0 k τ) (h623 : ∀ i, b ≤ i → i < (abN P b e T M tc c0 a k).1.1 → τ' 623 i = nI ((abN P b e T M tc c0 a k).1.2.2.1 i)) (hr : ∀ r, r ≠ 157 → r ≠ 623 → r ≠ 624 → τ' r = τ r) (hk : ∀ j, j ≠ 13 → j ≠ 14 → j ≠ 15 → τ' 157 j = τ 157 j) : bkM P b e T M tc c0 blk a σ0 k τ' := by
  obtain ⟨b17, b623, bP, bm, bo, br, b57⟩ := h
  refine ⟨by rw [hk 17 (by decide) (by decide) (by decide)]; exact b17, h623, fun i j hi hj => by rw [hr (687 + i) (by omega) (by omega) (by omega)]; exact bP i j hi hj, fun m hm => ?_, fun m hm => ?_, fun r q1 q2 => by rw [hr r q1 (by omega) (by omega)]; exact br r q1 q2, fun j q1 q2 q3 q4 => by rw [hk j q1 q2 q3]; exact b57 j q1 q2 q3 q4⟩
  · rw [hr 727 (by decide) (by decide) (by decide), hr 728 (by decide) (by decide) (by decide), hr (626 + (c0 + m)) (by omega) (by omega) (by omega)]
    exact bm m hm
  · rw [hr 727 (by decide) (by decide) (by decide), hr 728 (by decide) (by decide) (by decide), hr (626 + m) (by omega) (by omega) (by omega)]
    exact bo m hm
theorem x9_blk {c0 blk : Nat} {a : AB} (hM : rM σ P) (hV : pVs P) (htc : σ 157 8 = nI tc) (h8 : tc ≤ 8) (ht : ∀ t, t < tc → tpM σ t (T t) (M t)) (h11 : ∀ i, b ≤ i → i < e → σ 611 i = nI blk) (h12 : σ 612 blk = nI b) (h13 : σ 612 (blk + 1) = nI e) (he : e ≤ 40) (hb : blk < 40) (h17 : σ 157 17 = nI c0) (hc0 : c0 ≤ 60) (ha : a.1.1 = b) (ha2 : a.1.2.1 = 0) (hbe : b ≤ e) (hPL : plM σ a.2.1) : ∃ (k : Nat) (σ' : sg) (v : Int32), f_X9_packBlock σ (nI blk) = some (v, σ') ∧ (∀ j, j < k → ¬ endP P b e T M tc c0 a j) ∧ endP P b e T M tc c0 a k ∧ v = tf (stpP e (c0 + k) (abN P b e T M tc c0 a k) ∧ e ≤ (abN P b e T M tc c0 a k).1.1) ∧ c0 + k ≤ 60 ∧ bkM P b e T M tc c0 blk a σ k σ' := by
  have hok0 : okFS b e 0 a.1 := ⟨by omega, by omega, by omega, fun i k q1 q2 q3 => absurd q3 (by omega), fun i q1 q2 => absurd q2 (by omega)⟩
  unfold f_X9_packBlock L_X9_packBlock_19
  rw [ld_612 (by omega), Option.bind_some, h12, l_1, nI_add, ld_612 (by omega), Option.bind_some, h13]
  refine Exists.elim (loop_c3 (F := B_X9_packBlock_19 (nI blk) (nI e)) (60 - c0) (fun k x2 x4 τ => x2 = nI (abN P b e T M tc c0 a k).1.1 ∧ x4 = nI (abN P b e T M tc c0 a k).1.2.1 ∧ (∀ j, j < k → ¬ endP P b e T M tc c0 a j) ∧ bkM P b e T M tc c0 blk a σ k τ) (fun z => ∃ k, (∀ j, j < k → ¬ endP P b e T M tc c0 a j) ∧ endP P b e T M tc c0 a k ∧ z.1 = tf (stpP e (c0 + k) (abN P b e T M tc c0 a k) ∧ e ≤ (abN P b e T M tc c0 a k).1.1) ∧ c0 + k ≤ 60 ∧ bkM P b e T M tc c0 blk a σ k z.2) (fun k x2 x4 τ hk hR => ?_) (fu := gN) (gN_gt (by omega)) (a := nI b) (b := nI 0) (c := σ) ⟨(congrArg nI ha).symm, (congrArg nI ha2).symm, fun j hj => absurd hj (Nat.not_lt_zero j), ?_⟩) (fun z hz => ?_)
  · obtain ⟨rfl, rfl, hne, hB⟩ := hR
    have hk60 : c0 + k ≤ 60 := by omega
    obtain ⟨b17, b623, bP, bm, bo, br, b57⟩ := id hB
    obtain ⟨A, hA⟩ : ∃ A, A = abN P b e T M tc c0 a k := ⟨_, rfl⟩
    have hokA : okFS b e (3 * k) A.1 := by rw [hA]; exact abN_ok hok0 k
    rw [← hA] at b623 bP
    rw [← hA]
    have hA40 : A.1.1 ≤ 40 := Nat.le_trans hokA.2.1 he
    unfold B_X9_packBlock_19
    by_cases ke : e ≤ A.1.1
    · exact Or.inr ⟨(1, τ), if_pos (show nI e ≤ nI A.1.1 by rw [nI_lei (by omega) (by omega)]; exact ke), k, hne, Or.inl (Or.inr (by rw [← hA]; exact ke)), (tf_t ⟨Or.inr (by rw [← hA]; exact ke), by rw [← hA]; exact ke⟩).symm, hk60, hB⟩
    rw [if_neg (show ¬ nI e ≤ nI A.1.1 by rw [nI_lei (by omega) (by omega)]; exact ke)]
    have fz : ∀ c d : Prop, tf (c ∧ e ≤ (abN P b e T M tc c0 a k).1.1) = 0 := fun c d => by rw [tf_0]; exact fun q => ke (by rw [hA]; exact q.2)
    by_cases k60 : c0 + k = 60
    · rw [if_pos (show τ 157 17 = 60 by rw [b17, k60]; rfl)]
      unfold J_X9_packBlock_45
      exact Or.inr ⟨(0, τ), if_neg (by decide), k, hne, Or.inl (Or.inl (by omega)), (fz _ True).symm, hk60, hB⟩
    rw [if_neg (show ¬ τ 157 17 = 60 by rw [b17, show (60 : Int32) = nI 60 from rfl, nI_inj (by omega) (by decide)]; exact k60)]
    have nst : ¬ stpP e (c0 + k) A := fun q => q.elim (by omega) ke
    have hMτ : rM τ P := rM_fr hM (fun r q1 q2 => br r (by omega) (by omega))
    have tpτ : ∀ t, t < tc → tpM τ t (T t) (M t) := fun t h => by
      obtain ⟨a1, a2, a3, a4⟩ := ht t h
      exact ⟨a1, by rw [br 622 (by decide) (by omega)]; exact a2, a3, fun j hj => by rw [br (614 + t) (by omega) (by omega)]; exact a4 j hj⟩
    have τ11 : ∀ i, b ≤ i → i < e → τ 611 i = nI blk := fun i q1 q2 => by rw [br 611 (by decide) (by omega)]; exact h11 i q1 q2
    have τ12 : τ 612 blk = nI b := by rw [br 612 (by decide) (by omega)]; exact h12
    obtain ⟨σ1, c1, c623, crr, c57⟩ := x9_chosen (b := b) (e := e) hMτ hV (by rw [b57 8 (by decide) (by decide) (by decide) (by decide)]; exact htc) h8 tpτ (by omega) τ11 τ12 he (B := 3 * k) (by omega) hokA b623
    have hB1 : bkM P b e T M tc c0 blk a σ k σ1 := bkM_fr hk60 hB (by rw [← hA]; exact c623) crr c57
    rw [c1, Option.bind_some]
    by_cases tc0 : tc = 0
    · subst tc0
      unfold J_X9_packBlock_45
      exact Or.inr ⟨(0, σ1), if_neg (show ¬ 0 ≤ mI 1 by decide), k, hne, Or.inr (Or.inl rfl), (fz _ True).symm, hk60, hB1⟩
    obtain ⟨tq, ht1, ht2⟩ : ∃ t, chF P b e T M A.1 tc = some t ∧ t < tc := by
      obtain ⟨m, rfl⟩ : ∃ m, tc = m + 1 := ⟨tc - 1, by omega⟩
      exact chs_some
    have htm : tmB P b e T M tc A = tq := by
      unfold tmB
      rw [ht1]
      rfl
    have hfs : fsB P b e T M tc A = fsN P b e (T tq) (M tq) 3 A.1 := by
      unfold fsB
      rw [htm]
    rw [ht1]
    have tp1 : tpM σ1 tq (T tq) (M tq) := by
      obtain ⟨a1, a2, a3, a4⟩ := tpτ tq ht2
      exact ⟨a1, by rw [crr 622 (by decide) (by decide) (by decide)]; exact a2, a3, fun j hj => by rw [crr (614 + tq) (by omega) (by omega) (by omega)]; exact a4 j hj⟩
    obtain ⟨σ2, d1, d13, d14, d15, d623, d624, drr, d57⟩ := x9_fill (b := b) (e := e) (rM_fr hMτ (fun r q1 q2 => crr r (by omega) (by omega) (by omega))) hV tp1 (tb := blk) (by omega) (fun i q1 q2 => by rw [crr 611 (by decide) (by decide) (by decide)]; exact τ11 i q1 q2) (by rw [crr 612 (by decide) (by decide) (by decide)]; exact τ12) he (B := 3 * k) (by omega) hokA c623
    have e2 : ∀ r, r ≠ 157 → r ≠ 623 → r ≠ 624 → σ2 r = τ r := fun r q1 q2 q3 => by rw [drr r q1 q2 q3, crr r q1 q2 q3]
    have e57 : ∀ j, j ≠ 13 → j ≠ 14 → j ≠ 15 → σ2 157 j = τ 157 j := fun j q1 q2 q3 => by rw [d57 j q1 q2 q3, c57 j q1 q2 q3]
    rw [← hfs] at d13 d14 d15 d623 d624
    have hB2 : bkM P b e T M tc c0 blk a σ k σ2 := bkM_fr hk60 hB (by
      rw [← hA]
      intro i q1 q2
      rw [d623 i q1 (Nat.lt_of_lt_of_le q2 (by rw [hfs]; exact fsN_le 3)), hfs, fsN_g 3 q2]) e2 e57
    have hokB : okFS b e (3 * k + 3) (fsB P b e T M tc A) := by rw [hfs]; exact okFS_N 3 hokA
    have hBle : (fsB P b e T M tc A).1 ≤ 40 := Nat.le_trans hokB.2.1 he
    have hB0 : A.1.1 ≤ (fsB P b e T M tc A).1 := by rw [hfs]; exact fsN_le 3
    have hgrp : (fsB P b e T M tc A).2.1 = A.1.2.1 + bc (M tq) := by rw [hfs]; exact fsN_grp
    unfold J_X9_packBlock_45
    rw [show cbv (some tq) = nI tq from rfl, if_pos (show 0 ≤ nI tq by rw [l_0, nI_lei (by decide) (by omega)]; omega), d1, Option.bind_some, d15]
    have go : ¬ stkP P b e T M tc A → ∃ a' b' c', J_X9_packBlock_83 (nI blk) (nI e) (nI tq) σ2 = some (.inl (a', b', c')) ∧ k < 60 - c0 ∧ a' = nI (abN P b e T M tc c0 a (k + 1)).1.1 ∧ b' = nI (abN P b e T M tc c0 a (k + 1)).1.2.1 ∧ (∀ j, j < k + 1 → ¬ endP P b e T M tc c0 a j) ∧ bkM P b e T M tc c0 blk a σ (k + 1) c' := fun nsk => by
      have hnext : abN P b e T M tc c0 a (k + 1) = ab1 P b e T M tc (c0 + k) A := by rw [hA]; rfl
      have hsv : slV (fsB P b e T M tc A).2.2.2 (fsB P b e T M tc A).2.2.1 := by rw [hfs]; exact fs_slV he (by omega) hokA
      obtain ⟨σ3, f1, f17, fP, f26, f727, f728, ft, frr, f57⟩ := x9_take (σ := σ2) (t := tq) (blk := blk) (p3 := nI e) (c := c0 + k) (by rw [e57 17 (by decide) (by decide) (by decide)]; exact b17) (by omega) d624 hsv (fun j i hj hi hji => by
        rcases fs_sl (P := P) (b := b) (e := e) (ty := T tq) (m := M tq) (s0 := A.1) 3 j hj with h | ⟨x, x1, x2, x3⟩
        · rw [← hfs, hji] at h; exact absurd h (mI_ne (by decide) (by decide) (by omega))
        · rw [← hfs] at x2 x3
          have : x = i := by
            rw [hji, nI_inj (by omega) (by omega)] at x3
            exact x3.symm
          subst this
          exact d623 x (Nat.le_trans hokA.1 x1) x2) (PL := A.2.1) (fun i j hi hj => by rw [e2 (687 + i) (by omega) (by omega) (by omega)]; exact bP i j hi hj)
      refine ⟨_, _, _, f1, by omega, ?_, ?_, fun j hj => ?_, ?_⟩
      · rw [hnext, d13]; rfl
      · rw [hnext, d14]; rfl
      · by_cases ej : j = k
        · rw [ej]
          intro q
          unfold endP at q
          rw [← hA] at q
          exact q.elim nst nsk
        · exact hne j (by omega)
      · refine ⟨f17, fun i q1 q2 => ?_, ?_, fun m hm => ?_, fun m hm => ?_, fun r q1 q2 => ?_, fun j q1 q2 q3 q4 => ?_⟩
        · rw [hnext] at q2 ⊢
          rw [frr 623 (by decide) (by omega) (by omega)]
          exact d623 i q1 q2
        · rw [hnext]; exact fP
        · by_cases em : m = k
          · subst em
            rw [f727, f728, ← hA, htm, hnext]
            exact ⟨rfl, rfl, fun j hj => f26 j hj⟩
          · obtain ⟨z1, z2, z3⟩ := bm m (by omega)
            rw [(ft (c0 + m) (by omega)).1, (ft (c0 + m) (by omega)).2, frr (626 + (c0 + m)) (by omega) (by omega) (by omega), e2 727 (by decide) (by decide) (by decide), e2 728 (by decide) (by decide) (by decide), e2 (626 + (c0 + m)) (by omega) (by omega) (by omega)]
            exact ⟨z1, z2, z3⟩
        · obtain ⟨z1, z2, z3⟩ := bo m hm
          rw [(ft m (by omega)).1, (ft m (by omega)).2, frr (626 + m) (by omega) (by omega) (by omega), e2 727 (by decide) (by decide) (by decide), e2 728 (by decide) (by decide) (by decide), e2 (626 + m) (by omega) (by omega) (by omega)]
          exact ⟨z1, z2, z3⟩
        · rw [frr r q1 (by omega) (by omega), e2 r q1 (by omega) (by omega)]; exact br r q1 q2
        · rw [f57 j q4, e57 j q1 q2 q3]; exact b57 j q1 q2 q3 q4
    by_cases s1 : (fsB P b e T M tc A).1 = A.1.1
    · rw [if_pos (show nI ((fsB P b e T M tc A).1 - A.1.1) = 0 by rw [s1, Nat.sub_self]; rfl), ld_622 (by omega), Option.bind_some, drr 622 (by decide) (by decide) (by decide), tp1.2.1]
      have hm8 : M tq < 8 := tp1.2.2.1
      by_cases s2 : M tq = 0
      · rw [if_pos (show nI (M tq) = 0 by rw [s2]; rfl)]
        refine Or.inr ⟨_, rfl, k, hne, Or.inr (by rw [← hA]; exact Or.inr ⟨s1, by rw [hgrp, (bc_0 hm8).mpr s2]; rfl⟩), (fz _ True).symm, hk60, hB2⟩
      · rw [if_neg (show ¬ nI (M tq) = 0 by rw [l_0, nI_inj (by omega) (by decide)]; exact s2)]
        exact Or.inl (go (fun q => q.elim tc0 (fun w => s2 ((bc_0 hm8).mp (by have := w.2; omega)))))
    · rw [if_neg (show ¬ nI ((fsB P b e T M tc A).1 - A.1.1) = 0 by rw [l_0, nI_inj (by omega) (by decide)]; omega)]
      exact Or.inl (go (fun q => q.elim tc0 (fun w => s1 w.1)))
  · exact ⟨h17, fun i q1 q2 => absurd q2 (by show ¬ i < a.1.1; omega), hPL, fun m hm => absurd hm (Nat.not_lt_zero m), fun m hm => ⟨rfl, rfl, rfl⟩, fun r _ _ => rfl, fun j _ _ _ _ => rfl⟩
  · obtain ⟨z1, k, z2, z3, z4, z5, z6⟩ := hz
    exact ⟨k, z.2, z.1, z1, z2, z3, z4, z5, z6⟩
end
