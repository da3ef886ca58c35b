/-! TAKING A FILLED BUNDLE: the reference -/
theorem x9_take {σ : sg} {c blk t : Nat} {p3 : Int32} (h17 : σ 157 17 = nI c) (hc : c < 60) {sl : Nat → Int32} {gg : Nat → Nat} (h24 : ∀ j, j < 3 → σ 624 j = sl j) (hsl : slV sl gg) (hgg : ∀ j i, j < 3 → i < 40 → sl j = nI i → σ 623 i = nI (gg i)) {PL : gP} (hPL : plM σ PL) : ∃ σ', J_X9_packBlock_83 (nI blk) p3 (nI t) σ = some (.inl (σ 157 13, σ 157 14, σ')) ∧ σ' 157 17 = nI (c + 1) ∧ plM σ' (plN c sl gg PL 3) ∧ (∀ j, j < 3 → σ' (626 + c) j = sl j) ∧ σ' 727 c = nI t ∧ σ' 728 c = nI blk ∧ (∀ k, k ≠ c → σ' 727 k = σ 727 k ∧ σ' 728 k = σ 728 k) ∧ (∀ r, r ≠ 157 → r ≠ 626 + c → ¬ (687 ≤ r ∧ r ≤ 728) → σ' r = σ r) ∧ ∀ k, k ≠ 17 → σ' 157 k = σ 157 k := by
  unfold J_X9_packBlock_83 L_X9_packBlock_86
  rw [l_0]
  refine Exists.elim (loop_k2 (F := B_X9_packBlock_86 (nI blk) p3 (nI t)) 3 (fun j τ => τ 157 = σ 157 ∧ plM τ (plN c sl gg PL j) ∧ (∀ k, k < j → τ (626 + c) k = sl k) ∧ ∀ r, r ≠ 626 + c → ¬ (687 ≤ r ∧ r ≤ 726) → τ r = σ r) (fun z => ∃ σ', z = .inl (σ 157 13, σ 157 14, σ') ∧ σ' 157 17 = nI (c + 1) ∧ plM σ' (plN c sl gg PL 3) ∧ (∀ j, j < 3 → σ' (626 + c) j = sl j) ∧ σ' 727 c = nI t ∧ σ' 728 c = nI blk ∧ (∀ k, k ≠ c → σ' 727 k = σ 727 k ∧ σ' 728 k = σ 728 k) ∧ (∀ r, r ≠ 157 → r ≠ 626 + c → ¬ (687 ≤ r ∧ r ≤ 728) → σ' r = σ r) ∧ ∀ k, k ≠ 17 → σ' 157 k = σ 157 k) (fun j τ hj hR => ?_) (fu := gN) (gN_gt (by decide)) (b := σ) ⟨rfl, hPL, fun k hk => absurd hk (Nat.not_lt_zero k), fun _ _ _ => rfl⟩) (fun z hz => ?_)
  · obtain ⟨r157, rP, r626, rr⟩ := hR
    have r17 : τ 157 17 = nI c := by rw [r157]; exact h17
    unfold B_X9_packBlock_86 J_X9_packBlock_181
    by_cases j3 : j = 3
    · subst j3
      rw [if_pos (show 3 ≤ nI 3 by decide), r17, st_727 hc, Option.bind_some, up_r (show 157 ≠ 727 by decide), r17, st_728 hc, Option.bind_some, up_r (show 157 ≠ 728 by decide), up_r (show 157 ≠ 727 by decide), r17, l_1, nI_add, Option.bind_some]
      refine Or.inr ⟨_, rfl, up (up (up τ 727 c (nI t)) 728 c (nI blk)) 157 17 (nI (c + 1)), ?_, up_same _ _ _ _, fun i k hi hk => ?_, fun k hk => ?_, ?_, ?_, fun k hk => ⟨?_, ?_⟩, fun r q1 q2 q3 => ?_, fun k hk => ?_⟩
      · rw [up_k (show 13 ≠ 17 by decide), up_k (show 14 ≠ 17 by decide), up_r (show 157 ≠ 728 by decide), up_r (show 157 ≠ 727 by decide), r157]
      · rw [up_r (by omega), up_r (by omega), up_r (by omega)]; exact rP i k hi hk
      · rw [up_r (by omega), up_r (by omega), up_r (by omega)]; exact r626 k hk
      · rw [up_r (by decide), up_r (by decide), up_same]
      · rw [up_r (by decide), up_same]
      · rw [up_r (by decide), up_r (by decide), up_k hk, rr 727 (by omega) (by omega)]
      · rw [up_r (by decide), up_k hk, up_r (by decide), rr 728 (by omega) (by omega)]
      · rw [up_r q1, up_r (by omega), up_r (by omega), rr r q2 (by omega)]
      · rw [up_k hk, up_r (by decide), up_r (by decide), r157]
    have hj3 : j < 3 := by omega
    refine Or.inl ?_
    have r24 : τ 624 j = sl j := by rw [rr 624 (by omega) (by omega)]; exact h24 j hj3
    rw [if_neg (show ¬ 3 ≤ nI j by rw [l_3, nI_lei (by decide) (by omega)]; omega), r17, ldr_625 hc, Option.bind_some, ld_624 hj3, Option.bind_some, r24, stw_626 hc hj3, Option.bind_some]
    obtain ⟨τ1, hτ1⟩ : ∃ τ1, τ1 = up τ (626 + c) j (sl j) := ⟨_, rfl⟩
    have u : ∀ r, r ≠ 626 + c → τ1 r = τ r := fun r hr => by rw [hτ1, up_r hr]
    have u626 : ∀ k, k < j + 1 → τ1 (626 + c) k = sl k := fun k hk => by
      by_cases e : k = j
      · rw [e, hτ1, up_same]
      · rw [hτ1, up_k e]; exact r626 k (by omega)
    have u24 : τ1 624 j = sl j := by rw [u 624 (by omega)]; exact r24
    rw [← hτ1, ld_624 hj3, Option.bind_some, u24]
    rcases hsl j hj3 with e | ⟨i, hi, e, hgi⟩
    · rw [if_pos (show sl j < 0 by rw [e]; exact mI_lt (by decide) (by decide) (by decide)), l_1, nI_add]
      have e1 : plN c sl gg PL (j + 1) = plN c sl gg PL j := if_pos e
      rw [e1]
      exact ⟨τ1, rfl, hj3, by rw [u 157 (by omega)]; exact r157, fun x k hx hk => by rw [u (687 + x) (by omega)]; exact rP x k hx hk, u626, fun r q1 q2 => by rw [u r q1]; exact rr r q1 q2⟩
    · have ne : ¬ sl j = mI 4 := by rw [e]; exact mI_ne (by decide) (by decide) (by omega)
      have e1 : plN c sl gg PL (j + 1) = gset (plN c sl gg PL j) i (ro3 (nI c) (nI j) (nI (gg i))) := by
        show pl1 c j (sl j) gg (plN c sl gg PL j) = _
        unfold pl1
        rw [if_neg ne, e, ixs_nI hi]
      have n1 : (157 : Nat) ≠ 687 + i := by omega
      have n2 : (624 : Nat) ≠ 687 + i := by omega
      have n3 : (623 : Nat) ≠ 687 + i := by omega
      have v24 : ∀ υ : sg, υ 624 = τ1 624 → ld υ 624 (nI j) = some (nI i) := fun υ h => by rw [ld_624 hj3, h, u24, e]
      rw [if_neg (show ¬ sl j < 0 by rw [e, l_0, nI_lti (by omega) (by decide)]; omega), Option.bind_some, e, ldr_686 hi, Option.bind_some, u 157 (by omega), r17, l_0, stw_687 hi (by decide), Option.bind_some,
        v24 _ (up_r n2), Option.bind_some, ldr_686 hi, Option.bind_some, l_1, stw_687 hi (by decide), Option.bind_some,
        v24 _ (by rw [up_r n2, up_r n2]), Option.bind_some, ldr_686 hi, Option.bind_some, Option.bind_some, ld_623 hi, Option.bind_some, up_r n3, up_r n3, u 623 (by omega), rr 623 (by omega) (by omega), hgg j i hj3 hi e, l_2, stw_687 hi (by decide), Option.bind_some, nI_add, e1]
      have hw : up (up (up τ1 (687 + i) 0 (nI c)) (687 + i) 1 (nI j)) (687 + i) 2 (nI (gg i)) = w3 τ1 (687 + i) (nI c) (nI j) (nI (gg i)) := rfl
      rw [hw]
      refine ⟨_, rfl, hj3, by rw [w3_o n1, u 157 (by omega)]; exact r157, fun x k hx hk => ?_, fun k hk => by rw [w3_o (by omega)]; exact u626 k hk, fun r q1 q2 => by rw [w3_o (by omega), u r q1]; exact rr r q1 q2⟩
      by_cases ex : x = i
      · subst ex
        rw [gset_i, w3_s hk]
      · rw [gset_o ex, w3_o (by omega), u (687 + x) (by omega)]
        exact rP x k hx hk
  · obtain ⟨h1, σ', rfl, h2⟩ := hz
    exact ⟨σ', h1, h2⟩
