/-! TAKING A FILLED BUNDLE: the class -/
def ixs (v : Int32) : Nat := v.toNatClampNeg
theorem ixs_nI {i : Nat} (h : i < 40) : ixs (nI i) = i := nI_clamp (by omega)
/-- the places after slot j of bundle c took v -/
def pl1 (c j : Nat) (v : Int32) (gg : Nat → Nat) (PL : gP) : gP := if v = mI 4 then PL else gset PL (ixs v) (ro3 (nI c) (nI j) (nI (gg (ixs v))))
def plN (c : Nat) (sl : Nat → Int32) (gg : Nat → Nat) (PL : gP) : Nat → gP
  | 0 => PL
  | j + 1 => pl1 c j (sl j) gg (plN c sl gg PL j)
def cy1 (P : gP) (v : Int32) (gg : Nat → Nat) (cy : Nat) : Nat := if v = mI 4 then cy else max cy (gg (ixs v) + latN (pop P (ixs v)))
def cyN (P : gP) (sl : Nat → Int32) (gg : Nat → Nat) (cy : Nat) : Nat → Nat
  | 0 => cy
  | j + 1 => cy1 P (sl j) gg (cyN P sl gg cy j)
def plI (σ : sg) (PL : gP) : Prop := ∀ i, i < 40 → σ 139 i = PL i 0 ∧ σ 140 i = PL i 1 ∧ σ 141 i = PL i 2
def plM (σ : sg) (PL : gP) : Prop := ∀ i j, i < 40 → j < 3 → σ (687 + i) j = PL i j
/-- what a bundle may hold -/
def slV (sl : Nat → Int32) (gg : Nat → Nat) : Prop := ∀ j, j < 3 → sl j = mI 4 ∨ ∃ i, i < 40 ∧ sl j = nI i ∧ gg i < 1000
theorem cyN_lt {P : gP} {sl : Nat → Int32} {gg : Nat → Nat} {cy : Nat} (h : slV sl gg) (hc : cy < 2000) (j : Nat) (hj : j ≤ 3) : cyN P sl gg cy j < 2000 := by
  induction j with
  | zero => exact hc
  | succ j ih =>
    have h1 := ih (by omega)
    show cy1 P (sl j) gg (cyN P sl gg cy j) < 2000
    unfold cy1
    rcases h j (by omega) with e | ⟨i, hi, e, hg⟩
    · rw [if_pos e]; exact h1
    · rw [if_neg (show ¬ sl j = mI 4 by rw [e]; exact mI_ne (by decide) (by decide) (by omega)), e, ixs_nI hi]
      have hl := latN_le (pop P i)
      omega
section
variable {σ : sg} {P : gP}
theorem x5_take (hI : rI σ P) (hV : pVs P) {c blk t : Nat} (h11 : σ 75 11 = nI c) (hc : c < 60) (hb : blk < 40) {sl : Nat → Int32} {gg : Nat → Nat} (h74 : ∀ j, j < 3 → σ 74 j = sl j) (hsl : slV sl gg) (hgg : ∀ j i, j < 3 → i < 40 → sl j = nI i → σ 73 i = nI (gg i)) {PL : gP} (hPL : plI σ PL) {cy : Nat} (hcy : σ 142 blk = nI cy) (hcl : cy < 2000) : ∃ σ', f_X5_takeBundle σ (nI blk) (nI t) = some σ' ∧ σ' 75 11 = nI (c + 1) ∧ plI σ' (plN c sl gg PL 3) ∧ (∀ j, j < 3 → σ' (77 + c) j = sl j) ∧ σ' 137 c = nI t ∧ σ' 138 c = nI blk ∧ σ' 142 blk = nI (cyN P sl gg cy 3) ∧ (∀ k, k ≠ c → σ' 137 k = σ 137 k ∧ σ' 138 k = σ 138 k) ∧ (∀ r, r ≠ 75 → r ≠ 77 + c → ¬ (137 ≤ r ∧ r ≤ 142) → σ' r = σ r) ∧ (∀ k, k ≠ 11 → σ' 75 k = σ 75 k) ∧ ∀ k, k ≠ blk → σ' 142 k = σ 142 k := by
  unfold f_X5_takeBundle L_X5_takeBundle_23
  rw [h11, st_137 hc, Option.bind_some, up_r (show 75 ≠ 137 by decide), h11, st_138 hc, Option.bind_some, l_0]
  refine loop_k2 (F := B_X5_takeBundle_23 (nI blk)) 3 (fun j τ => τ 75 = σ 75 ∧ plI τ (plN c sl gg PL j) ∧ (∀ k, k < j → τ (77 + c) k = sl k) ∧ τ 137 c = nI t ∧ τ 138 c = nI blk ∧ τ 142 blk = nI (cyN P sl gg cy j) ∧ (∀ k, k ≠ c → τ 137 k = σ 137 k ∧ τ 138 k = σ 138 k) ∧ (∀ r, r ≠ 75 → r ≠ 77 + c → ¬ (137 ≤ r ∧ r ≤ 142) → τ r = σ r) ∧ ∀ k, k ≠ blk → τ 142 k = σ 142 k) _ (fun j τ hj hR => ?_) (fu := gN) (gN_gt (by decide)) ⟨by rw [up_r (by decide), up_r (by decide)], fun i hi => by rw [up_r (by decide), up_r (by decide), up_r (by decide), up_r (by decide), up_r (by decide), up_r (by decide)]; exact hPL i hi, fun k hk => absurd hk (Nat.not_lt_zero k), by rw [up_r (by decide), up_same], up_same _ _ _ _, by rw [up_r (by decide), up_r (by decide)]; exact hcy, fun k hk => ⟨by rw [up_r (by decide), up_k hk], by rw [up_k hk, up_r (by decide)]⟩, fun r q1 q2 q3 => by rw [up_r (by omega), up_r (by omega)], fun k hk => by rw [up_r (by decide), up_r (by decide)]⟩
  obtain ⟨r75, rP, r77, r137, r138, r142, rt, rr, r42⟩ := hR
  have r11 : τ 75 11 = nI c := by rw [r75]; exact h11
  unfold B_X5_takeBundle_23 J_X5_takeBundle_114
  by_cases j3 : j = 3
  · subst j3
    rw [if_pos (show 3 ≤ nI 3 by decide), r11, l_1, nI_add, Option.bind_some]
    refine Or.inr ⟨_, rfl, up_same _ _ _ _, fun i hi => by rw [up_r (by decide), up_r (by decide), up_r (by decide)]; exact rP i hi, fun k hk => by rw [up_r (by omega)]; exact r77 k hk, by rw [up_r (by decide)]; exact r137, by rw [up_r (by decide)]; exact r138, by rw [up_r (by decide)]; exact r142, fun k hk => by rw [up_r (by decide), up_r (by decide)]; exact rt k hk, fun r q1 q2 q3 => by rw [up_r q1]; exact rr r q1 q2 q3, fun k hk => by rw [up_k hk, r75], fun k hk => by rw [up_r (by decide)]; exact r42 k hk⟩
  have hj3 : j < 3 := by omega
  refine Or.inl ?_
  rw [if_neg (show ¬ 3 ≤ nI j by rw [l_3, nI_lei (by decide) (by omega)]; omega), ld_74 hj3, Option.bind_some, rr 74 (by decide) (by omega) (by omega), h74 j hj3, r11, ldr_76 hc, Option.bind_some, stw_77 hc hj3, Option.bind_some]
  obtain ⟨τ1, hτ1⟩ : ∃ τ1, τ1 = up τ (77 + c) j (sl j) := ⟨_, rfl⟩
  have u : ∀ r, r ≠ 77 + c → τ1 r = τ r := fun r hr => by rw [hτ1, up_r hr]
  have u77 : ∀ k, k < j + 1 → τ1 (77 + c) k = sl k := fun k hk => by
    by_cases e : k = j
    · rw [e, hτ1, up_same]
    · rw [hτ1, up_k e]; exact r77 k (by omega)
  rw [← hτ1]
  rcases hsl j hj3 with e | ⟨i, hi, e, hgi⟩
  · rw [if_pos (show sl j = -4 from e), l_1, nI_add]
    have e1 : plN c sl gg PL (j + 1) = plN c sl gg PL j := if_pos e
    have e2 : cyN P sl gg cy (j + 1) = cyN P sl gg cy j := if_pos e
    rw [e1, e2]
    exact ⟨τ1, rfl, hj3, by rw [u 75 (by omega)]; exact r75, fun x hx => by rw [u 139 (by omega), u 140 (by omega), u 141 (by omega)]; exact rP x hx, u77, by rw [u 137 (by omega)]; exact r137, by rw [u 138 (by omega)]; exact r138, by rw [u 142 (by omega)]; exact r142, fun k hk => by rw [u 137 (by omega), u 138 (by omega)]; exact rt k hk, fun r q1 q2 q3 => by rw [u r q2]; exact rr r q1 q2 q3, fun k hk => by rw [u 142 (by omega)]; exact r42 k hk⟩
  · have ne : ¬ sl j = mI 4 := by rw [e]; exact mI_ne (by decide) (by decide) (by omega)
    have e1 : plN c sl gg PL (j + 1) = gset (plN c sl gg PL j) i (ro3 (nI c) (nI j) (nI (gg i))) := by
      show pl1 c j (sl j) gg (plN c sl gg PL j) = _
      unfold pl1
      rw [if_neg ne, e, ixs_nI hi]
    have e2 : cyN P sl gg cy (j + 1) = max (cyN P sl gg cy j) (gg i + latN (pop P i)) := by
      show cy1 P (sl j) gg (cyN P sl gg cy j) = _
      unfold cy1
      rw [if_neg ne, e, ixs_nI hi]
    have hlt := cyN_lt (P := P) hsl hcl j hj
    have hl := latN_le (pop P i)
    rw [if_neg (show ¬ sl j = -4 from ne), e, u 75 (by omega), r11, st_139 hi, Option.bind_some, st_140 hi, Option.bind_some, ld_73 hi, Option.bind_some]
    rw [up_r (show 73 ≠ 140 by decide), up_r (show 73 ≠ 139 by decide), u 73 (by omega), rr 73 (by decide) (by omega) (by omega), hgg j i hj3 hi e, st_141 hi, Option.bind_some, ld_142 hb, Option.bind_some]
    obtain ⟨τ2, hτ2⟩ : ∃ τ2, τ2 = up (up (up τ1 139 i (nI c)) 140 i (nI j)) 141 i (nI (gg i)) := ⟨_, rfl⟩
    have w : ∀ r, r ≠ 139 → r ≠ 140 → r ≠ 141 → r ≠ 77 + c → τ2 r = τ r := fun r q1 q2 q3 q4 => by rw [hτ2, up_r q3, up_r q2, up_r q1, u r q4]
    have w41 : τ2 141 i = nI (gg i) := by rw [hτ2, up_same]
    have hd : f_X5_due τ2 (nI i) = some (nI (gg i + latN (pop P i))) := by
      unfold f_X5_due
      rw [ld_141 hi, Option.bind_some, w41, x6_lat (rI_fr hI (fun r q1 q2 => by rw [w r (by omega) (by omega) (by omega) (by omega), rr r (by omega) (by omega) (by omega)])) hi (hV i hi), Option.bind_some, nI_add]
    rw [← hτ2, hd, Option.bind_some, w 142 (by decide) (by decide) (by decide) (by omega), r142, imax_nI (by omega) (by omega), ← e2, st_142 hb, Option.bind_some, l_1, nI_add, e1]
    refine ⟨_, rfl, hj3, by rw [up_r (by decide), w 75 (by decide) (by decide) (by decide) (by omega)]; exact r75, fun x hx => ?_, fun k hk => ?_, ?_, ?_, up_same _ _ _ _, fun k hk => ?_, fun r q1 q2 q3 => ?_, fun k hk => ?_⟩
    · rw [up_r (by decide), up_r (by decide), up_r (by decide), hτ2]
      by_cases ex : x = i
      · subst ex
        rw [gset_i, gset_i, gset_i, up_r (by decide), up_r (by decide), up_same, up_r (by decide), up_same, up_same]
        exact ⟨rfl, rfl, rfl⟩
      · rw [gset_o ex, gset_o ex, gset_o ex, up_r (by decide), up_r (by decide), up_k ex, up_r (by decide), up_k ex, up_r (by decide), up_k ex, up_r (by decide), up_r (by decide), u 139 (by omega), u 140 (by omega), u 141 (by omega)]
        exact rP x hx
    · rw [up_r (by omega), hτ2, up_r (by omega), up_r (by omega), up_r (by omega)]
      exact u77 k hk
    · rw [up_r (by decide), w 137 (by decide) (by decide) (by decide) (by omega)]; exact r137
    · rw [up_r (by decide), w 138 (by decide) (by decide) (by decide) (by omega)]; exact r138
    · rw [up_r (by decide), up_r (by decide), w 137 (by decide) (by decide) (by decide) (by omega), w 138 (by decide) (by decide) (by decide) (by omega)]; exact rt k hk
    · rw [up_r (by omega), w r (by omega) (by omega) (by omega) q2]; exact rr r q1 q2 q3
    · rw [up_k hk, w 142 (by decide) (by decide) (by decide) (by omega)]; exact r42 k hk
end
