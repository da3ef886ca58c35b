/-! WHAT AN INSTRUCTION DOES -/
abbrev MS : Type := Nat → Int32
def wr (s : MS) (p : Nat) (v : Int32) : MS := fun k => if k = p then v else s k
def kA (v : Int32) : Nat := (v &&& nI 15).toNatClampNeg
theorem and15 (v : Int32) : v &&& nI 15 = nI (kA v) ∧ kA v < 16 := by
  have h1 : (v.toBitVec &&& (nI 15).toBitVec).toNat ≤ 15 := by
    rw [BitVec.toNat_and]
    exact Nat.and_le_right
  have h2 : (v &&& nI 15).toInt = ((v.toBitVec &&& (nI 15).toBitVec).toNat : Int) := by
    show BitVec.toInt (v.toBitVec &&& (nI 15).toBitVec) = _
    exact BitVec.toInt_eq_toNat_of_lt (by omega)
  have h3 : v &&& nI 15 = nI (v &&& nI 15).toInt.toNat := nI_ofi (by omega)
  have h4 : kA v = (v &&& nI 15).toInt.toNat := by
    show (v &&& nI 15).toNatClampNeg = _
    rw [h3, nI_clamp (by omega), nI_toInt (by omega)]
    omega
  rw [h4]
  exact ⟨h3, by omega⟩
def cel (P : gP) (s : MS) (i : Nat) : Nat := kA (s (pa P i))
def ceP (P : gP) (s : MS) (i : Nat) : Nat := if pop P i = 8 ∨ pop P i = 9 then cel P s i else 0
/-- the place that a store to a cell, or another instruction, writes; 24 of an exit -/
def pwC (P : gP) (i c : Nat) : Nat := if 10 ≤ pop P i then 24 else if pop P i = 9 then 8 + c else pd P i
def pw (P : gP) (s : MS) (i : Nat) : Nat := pwC P i (cel P s i)
def val (P : gP) (s : MS) (i : Nat) : Int32 := if pop P i = 0 then P i 2 else if pop P i = 1 then s (pa P i) + s (pb P i) else if pop P i = 2 then s (pa P i) - s (pb P i) else if pop P i = 3 then s (pa P i) &&& s (pb P i) else if pop P i = 4 then s (pa P i) ^^^ s (pb P i) else if pop P i = 5 then s (pa P i) >>> ((s (pb P i) &&& (31 : Int32)) &&& 31) else if pop P i = 6 then (if s (pb P i) ≤ s (pa P i) then (0 : Int32) else (1 : Int32)) else if pop P i = 7 then s (pa P i) * s (pb P i) else if pop P i = 8 then s (8 + cel P s i) else if pop P i = 9 then s (pb P i) else 0
def suc (P : gP) (n : Nat) (s : MS) (i : Nat) : Nat := if pop P i = 12 then n else if pop P i = 10 ∨ (pop P i = 11 ∧ s (pb P i) ≠ 0) then pa P i else i + 1
def sucI (P : gP) (s : MS) (i : Nat) : Int32 := if pop P i = 12 then mI 1 else if pop P i = 10 ∨ (pop P i = 11 ∧ s (pb P i) ≠ 0) then nI (pa P i) else nI (i + 1)
/-- a machine of the class; the machine of the reference -/
def mS (σ : sg) (o : Nat) (s : MS) : Prop := (∀ k, k < 8 → σ (o + 1) k = s k) ∧ ∀ k, k < 16 → σ (o + 2) k = s (8 + k)
def mR (σ : sg) (s : MS) : Prop := ∀ k, k < 24 → σ 731 k = s k
def oMa (o : Nat) : Prop := o = 145 ∨ o = 148 ∨ o = 151
section
variable {σ : sg} {P : gP} {o : Nat} {s : MS}
theorem ldo1 (ho : oMa o) {k : Nat} (hk : k < 8) : ld σ (o + 1) (nI k) = some (σ (o + 1) k) := by
  rcases ho with rfl | rfl | rfl
  · exact ld_146 hk
  · exact ld_of rfl hk (by decide)
  · exact ld_of rfl hk (by decide)
theorem ldo2 (ho : oMa o) {k : Nat} (hk : k < 16) : ld σ (o + 2) (nI k) = some (σ (o + 2) k) := by
  rcases ho with rfl | rfl | rfl
  · exact ld_147 hk
  · exact ld_of rfl hk (by decide)
  · exact ld_of rfl hk (by decide)
theorem sto1 (ho : oMa o) {k : Nat} {v : Int32} (hk : k < 8) : st σ (o + 1) (nI k) v = some (up σ (o + 1) k v) := by
  rcases ho with rfl | rfl | rfl
  · exact st_146 hk
  · exact st_of rfl hk (by decide)
  · exact st_of rfl hk (by decide)
theorem sto2 (ho : oMa o) {k : Nat} {v : Int32} (hk : k < 16) : st σ (o + 2) (nI k) v = some (up σ (o + 2) k v) := by
  rcases ho with rfl | rfl | rfl
  · exact st_147 hk
  · exact st_of rfl hk (by decide)
  · exact st_of rfl hk (by decide)
theorem pop_or {i : Nat} (hv : pV P i) : pop P i = 0 ∨ pop P i = 1 ∨ pop P i = 2 ∨ pop P i = 3 ∨ pop P i = 4 ∨ pop P i = 5 ∨ pop P i = 6 ∨ pop P i = 7 ∨ pop P i = 8 ∨ pop P i = 9 ∨ pop P i = 10 ∨ pop P i = 11 ∨ pop P i = 12 := by
  have := hv.2.1
  omega
theorem x4_cel (hI : rI σ P) (ho : oMa o) (hm : mS σ o s) {i : Nat} (hi : i < 40) (hv : pV P i) : f_X4_cellOf σ o (3 + i) = some (nI (ceP P s i)) := by
  obtain ⟨v1, v2, v3, v4, v5, v6, v7⟩ := id hv
  have e0 : ld σ (3 + i) 0 = some (nI (pop P i)) := by rw [l_0, ldI hI hi (by decide), v1]
  unfold f_X4_cellOf J_X4_cellOf_16 J_X4_cellOf_21 ceP
  rw [e0, Option.bind_some]
  have hit : pop P i = 8 ∨ pop P i = 9 → (if (1 : Int32) = 0 then some (0 : Int32) else (ld σ (3 + i) (2 : Int32)).bind fun v32 => (ld σ (o + 1) v32).bind fun v33 => some (v33 &&& (15 : Int32))) = some (nI (if pop P i = 8 ∨ pop P i = 9 then cel P s i else 0)) := fun h => by
    obtain ⟨w1, w2, w3⟩ := v7 (by omega)
    have w4 := w3 (by omega)
    rw [if_neg (show ¬ (1 : Int32) = 0 by decide), l_2, ldI hI hi (by decide), Option.bind_some, w1, ldo1 ho w4, Option.bind_some, hm.1 _ w4, if_pos h, show (15 : Int32) = nI 15 from rfl, (and15 _).1]
    rfl
  by_cases c8 : pop P i = 8
  · rw [if_pos (show nI (pop P i) = 8 by rw [c8]; rfl)]
    exact hit (Or.inl c8)
  · rw [if_neg (show ¬ nI (pop P i) = 8 by rw [l_8, nI_inj (by omega) (by decide)]; exact c8), Option.bind_some]
    by_cases c9 : pop P i = 9
    · rw [if_pos (show nI (pop P i) = 9 by rw [c9]; rfl)]
      exact hit (Or.inr c9)
    · rw [if_neg (show ¬ nI (pop P i) = 9 by rw [l_9, nI_inj (by omega) (by decide)]; exact c9), if_pos rfl, if_neg (show ¬ (pop P i = 8 ∨ pop P i = 9) by omega)]
      rfl
theorem x4_res (hI : rI σ P) (ho : oMa o) (hm : mS σ o s) {i : Nat} (hi : i < 40) (hv : pV P i) : f_X4_resultOf σ o (3 + i) = some (val P s i) := by
  obtain ⟨v1, v2, v3, v4, v5, v6, v7⟩ := id hv
  have e0 : ld σ (3 + i) 0 = some (nI (pop P i)) := by rw [l_0, ldI hI hi (by decide), v1]
  have e2 : ld σ (3 + i) 2 = some (P i 2) := by rw [l_2, ldI hI hi (by decide)]
  have e3 : ld σ (3 + i) 3 = some (nI (pb P i)) := by rw [l_3, ldI hI hi (by decide), v5]
  have eb : ld σ (o + 1) (nI (pb P i)) = some (s (pb P i)) := by rw [ldo1 ho v6, hm.1 _ v6]
  have ea : pop P i ≠ 0 → pop P i ≤ 9 → ld σ (o + 1) (P i 2) = some (s (pa P i)) := fun h h9 => by
    obtain ⟨w1, w2, w3⟩ := v7 h
    rw [w1, ldo1 ho (w3 h9), hm.1 _ (w3 h9)]
  have ec := x4_cel hI ho hm hi hv
  have e8 : pop P i = 8 → ld σ (o + 2) (nI (ceP P s i)) = some (s (8 + cel P s i)) := fun h => by
    unfold ceP
    rw [if_pos (Or.inl h)]
    have : cel P s i < 16 := (and15 _).2
    rw [ldo2 ho this, hm.2 _ this]
  have hp := pop_or hv
  unfold f_X4_resultOf J_X4_resultOf_94 f_X4_calculated val
  simp only [e0, Option.bind_some, e2, e3, ec, eb]
  obtain ⟨q, hq⟩ : ∃ q, q = pop P i := ⟨_, rfl⟩
  rw [← hq] at hp ea e8 ⊢
  rcases hp with rfl | rfl | rfl | rfl | rfl | rfl | rfl | rfl | rfl | rfl | rfl | rfl | rfl
  · rfl
  · rw [ea (by decide) (by decide)]
    rfl
  · rw [ea (by decide) (by decide)]
    rfl
  · rw [ea (by decide) (by decide)]
    rfl
  · rw [ea (by decide) (by decide)]
    rfl
  · rw [ea (by decide) (by decide)]
    rfl
  · simp only [ea (by decide) (by decide), Option.bind_some]
    by_cases c : s (pb P i) ≤ s (pa P i)
    · rw [if_pos c, if_pos c]; rfl
    · rw [if_neg c, if_neg c]; rfl
  · rw [ea (by decide) (by decide)]
    rfl
  · rw [e8 rfl]; rfl
  · rfl
  · rfl
  · rfl
  · rfl
theorem x4_suc (hI : rI σ P) (ho : oMa o) (hm : mS σ o s) {i : Nat} (hi : i < 40) (hv : pV P i) : f_X4_successor σ o (3 + i) (nI i) = some (sucI P s i) := by
  obtain ⟨v1, v2, v3, v4, v5, v6, v7⟩ := id hv
  have e0 : ld σ (3 + i) 0 = some (nI (pop P i)) := by rw [l_0, ldI hI hi (by decide), v1]
  have e2 : pop P i ≠ 0 → ld σ (3 + i) 2 = some (nI (pa P i)) := fun h => by rw [l_2, ldI hI hi (by decide), (v7 h).1]
  have e3 : ld σ (3 + i) 3 = some (nI (pb P i)) := by rw [l_3, ldI hI hi (by decide), v5]
  have eb : ld σ (o + 1) (nI (pb P i)) = some (s (pb P i)) := by rw [ldo1 ho v6, hm.1 _ v6]
  have hb1 : nI i + (1 : Int32) = nI (i + 1) := by rw [l_1, nI_add]
  unfold f_X4_successor sucI
  rw [e0, Option.bind_some]
  by_cases c10 : pop P i = 10
  · rw [if_pos (show nI (pop P i) = 10 by rw [c10]; rfl), e2 (by omega), Option.bind_some, if_neg (by omega), if_pos (Or.inl c10)]
  rw [if_neg (show ¬ nI (pop P i) = 10 by rw [l_10, nI_inj (by omega) (by decide)]; exact c10)]
  by_cases c11 : pop P i = 11
  · rw [if_pos (show nI (pop P i) = 11 by rw [c11]; rfl), e3, Option.bind_some, eb, Option.bind_some, if_neg (show ¬ pop P i = 12 by omega)]
    by_cases cb : s (pb P i) = 0
    · rw [if_pos cb, if_neg (fun q => q.elim c10 (fun w => w.2 cb)), hb1]
    · rw [if_neg cb, if_pos (Or.inr ⟨c11, cb⟩), e2 (by omega), Option.bind_some]
  rw [if_neg (show ¬ nI (pop P i) = 11 by rw [l_11, nI_inj (by omega) (by decide)]; exact c11)]
  by_cases c12 : pop P i = 12
  · rw [if_pos (show nI (pop P i) = 12 by rw [c12]; rfl), if_pos c12]; rfl
  · rw [if_neg (show ¬ nI (pop P i) = 12 by rw [l_12, nI_inj (by omega) (by decide)]; exact c12), if_neg c12, if_neg (fun q => q.elim c10 (fun w => c11 w.1)), hb1]
theorem x4_take (hI : rI σ P) (ho : oMa o) (hm : mS σ o s) {i c : Nat} {v : Int32} (hi : i < 40) (hv : pV P i) (hc : c < 16) : ∃ σ', f_X4_take σ o (3 + i) (nI c) v = some σ' ∧ mS σ' o (wr s (pwC P i c) v) ∧ ∀ r, r ≠ o + 1 → r ≠ o + 2 → σ' r = σ r := by
  obtain ⟨v1, v2, v3, v4, v5, v6, v7⟩ := id hv
  have e0 : ld σ (3 + i) 0 = some (nI (pop P i)) := by rw [l_0, ldI hI hi (by decide), v1]
  have e1 : ld σ (3 + i) 1 = some (nI (pd P i)) := by rw [l_1, ldI hI hi (by decide), v3]
  unfold f_X4_take pwC
  rw [e0, Option.bind_some]
  by_cases c8 : pop P i ≤ 8
  · rw [if_neg (show ¬ 8 < nI (pop P i) by rw [l_8, nI_lti (by decide) (by omega)]; omega), e1, Option.bind_some, sto1 ho v4, Option.bind_some, if_neg (by omega), if_neg (by omega)]
    refine ⟨_, rfl, ⟨fun k hk => ?_, fun k hk => ?_⟩, fun r q1 q2 => up_r q1⟩
    · show _ = if k = pd P i then v else s k
      by_cases e : k = pd P i
      · rw [e, up_same, if_pos rfl]
      · rw [up_k e, if_neg e]; exact hm.1 k hk
    · show _ = if 8 + k = pd P i then v else s (8 + k)
      rw [up_r (by omega), if_neg (by omega)]; exact hm.2 k hk
  rw [if_pos (show 8 < nI (pop P i) by rw [l_8, nI_lti (by decide) (by omega)]; omega), Option.bind_some]
  by_cases c9 : pop P i = 9
  · rw [if_pos (show nI (pop P i) = 9 by rw [c9]; rfl), sto2 ho hc, Option.bind_some, if_neg (by omega), if_pos c9]
    refine ⟨_, rfl, ⟨fun k hk => ?_, fun k hk => ?_⟩, fun r q1 q2 => up_r q2⟩
    · show _ = if k = 8 + c then v else s k
      rw [up_r (by omega), if_neg (by omega)]; exact hm.1 k hk
    · show _ = if 8 + k = 8 + c then v else s (8 + k)
      by_cases e : k = c
      · rw [e, up_same, if_pos rfl]
      · rw [up_k e, if_neg (by omega)]; exact hm.2 k hk
  · rw [if_neg (show ¬ nI (pop P i) = 9 by rw [l_9, nI_inj (by omega) (by decide)]; exact c9), if_pos (show 10 ≤ pop P i by omega)]
    refine ⟨_, rfl, ⟨fun k hk => ?_, fun k hk => ?_⟩, fun r q1 q2 => rfl⟩
    · show _ = if k = 24 then v else s k
      rw [if_neg (by omega)]; exact hm.1 k hk
    · show _ = if 8 + k = 24 then v else s (8 + k)
      rw [if_neg (by omega)]; exact hm.2 k hk
/-! the reference -/
theorem x9_plw (hM : rM σ P) (hm : mR σ s) {i : Nat} (hi : i < 40) (hv : pV P i) : f_X9_placeWritten σ (nI i) = some (if 10 ≤ pop P i then mI 1 else nI (pw P s i)) := by
  obtain ⟨v1, v2, v3, v4, v5, v6, v7⟩ := id hv
  unfold f_X9_placeWritten pw pwC
  rw [x9_exitt hM hi hv, Option.bind_some, if_tf]
  by_cases c10 : 10 ≤ pop P i
  · rw [cif_t c10, if_pos c10]; rfl
  rw [cif_f c10, if_neg c10, x9_op hM hi, Option.bind_some, v1, ldr_158 hi, Option.bind_some, if_neg c10]
  by_cases c9 : pop P i = 9
  · obtain ⟨w1, w2, w3⟩ := v7 (by omega)
    have w4 := w3 (by omega)
    rw [if_pos (show nI (pop P i) = 9 by rw [c9]; rfl), l_2, ldM hM hi (by decide), Option.bind_some, w1, ld_731 (by omega), Option.bind_some, hm _ (by omega), if_pos c9, show (15 : Int32) = nI 15 from rfl, (and15 _).1, l_8, nI_add]
    rfl
  · rw [if_neg (show ¬ nI (pop P i) = 9 by rw [l_9, nI_inj (by omega) (by decide)]; exact c9), Option.bind_some, l_1, ldM hM hi (by decide), Option.bind_some, v3, if_neg c9]
theorem x9_val (hM : rM σ P) (hm : mR σ s) {i : Nat} (hi : i < 40) (hv : pV P i) : f_X9_valueWritten σ (nI i) = some (val P s i) := by
  obtain ⟨v1, v2, v3, v4, v5, v6, v7⟩ := id hv
  have e2 : ld σ (159 + i) 2 = some (P i 2) := by rw [l_2, ldM hM hi (by decide)]
  have e3 : ld σ (159 + i) 3 = some (nI (pb P i)) := by rw [l_3, ldM hM hi (by decide), v5]
  have eb : ld σ 731 (nI (pb P i)) = some (s (pb P i)) := by rw [ld_731 (by omega), hm _ (by omega)]
  have ea : pop P i ≠ 0 → pop P i ≤ 9 → ld σ 731 (P i 2) = some (s (pa P i)) := fun h h9 => by
    obtain ⟨w1, w2, w3⟩ := v7 h
    have := w3 h9
    rw [w1, ld_731 (by omega), hm _ (by omega)]
  have e8 : ld σ 731 (8 + (s (pa P i) &&& 15)) = some (s (8 + cel P s i)) := by
    have := and15 (s (pa P i))
    rw [show (15 : Int32) = nI 15 from rfl, this.1, l_8, nI_add, ld_731 (by omega), hm _ (by omega)]
    rfl
  have hx := x9_exitt hM hi hv
  have hop := x9_op hM hi
  rw [v1] at hop
  have hp := pop_or hv
  have h35 : ∀ t0 : Int32, J_X9_valueWritten_35 σ (nI i) (P i 2) t0 = J_X9_valueWritten_61 σ (nI i) (P i 2) t0 (cif (10 ≤ pop P i) 0 (s (pb P i))) := fun t0 => by
    unfold J_X9_valueWritten_35
    rw [hx, Option.bind_some, if_tf, ldr_158 hi, Option.bind_some, e3, Option.bind_some, eb, Option.bind_some]
    by_cases c : 10 ≤ pop P i
    · rw [cif_t c, cif_t c]
    · rw [cif_f c, cif_f c]
  unfold f_X9_valueWritten J_X9_valueWritten_34
  rw [ldr_158 hi, Option.bind_some, e2, Option.bind_some, hop, Option.bind_some, hx, Option.bind_some, if_tf, h35]
  unfold J_X9_valueWritten_61 val
  rw [hop, Option.bind_some]
  simp only [h35]
  unfold J_X9_valueWritten_61
  simp only [hop, Option.bind_some]
  obtain ⟨q, hq⟩ : ∃ q, q = pop P i := ⟨_, rfl⟩
  rw [← hq] at hp ea ⊢
  have t1 : ∀ (α : Type) (k : Nat) (x y : α), 10 ≤ k → cif (10 ≤ k) x y = x := fun _ k x y h => cif_t h
  have t0 : ∀ (α : Type) (k : Nat) (x y : α), ¬ 10 ≤ k → cif (10 ≤ k) x y = y := fun _ k x y h => cif_f h
  rcases hp with rfl | rfl | rfl | rfl | rfl | rfl | rfl | rfl | rfl | rfl | rfl | rfl | rfl
  · rw [if_pos (by decide), if_pos (by decide), if_pos rfl]
  · rw [if_neg (by decide), t0 _ _ _ _ (by decide), t0 _ _ _ _ (by decide), ea (by decide) (by decide), Option.bind_some]
    rfl
  · rw [if_neg (by decide), t0 _ _ _ _ (by decide), t0 _ _ _ _ (by decide), ea (by decide) (by decide), Option.bind_some]
    rfl
  · rw [if_neg (by decide), t0 _ _ _ _ (by decide), t0 _ _ _ _ (by decide), ea (by decide) (by decide), Option.bind_some]
    rfl
  · rw [if_neg (by decide), t0 _ _ _ _ (by decide), t0 _ _ _ _ (by decide), ea (by decide) (by decide), Option.bind_some]
    rfl
  · rw [if_neg (by decide), t0 _ _ _ _ (by decide), t0 _ _ _ _ (by decide), ea (by decide) (by decide), Option.bind_some]
    rfl
  · rw [if_neg (by decide), t0 _ _ _ _ (by decide), t0 _ _ _ _ (by decide), ea (by decide) (by decide), Option.bind_some]
    by_cases c : s (pb P i) ≤ s (pa P i)
    · rw [if_pos c, if_pos c]; rfl
    · rw [if_neg c, if_neg c]; rfl
  · rw [if_neg (by decide), t0 _ _ _ _ (by decide), t0 _ _ _ _ (by decide), ea (by decide) (by decide), Option.bind_some]
    rfl
  · rw [if_neg (by decide), t0 _ _ _ _ (by decide), t0 _ _ _ _ (by decide), ea (by decide) (by decide), Option.bind_some, e8]
    rfl
  · rw [if_neg (by decide), t0 _ _ _ _ (by decide), t0 _ _ _ _ (by decide), ea (by decide) (by decide), Option.bind_some]
    rfl
  · rw [if_neg (by decide), t1 _ _ _ _ (by decide), t1 _ _ _ _ (by decide)]
    rfl
  · rw [if_neg (by decide), t1 _ _ _ _ (by decide), t1 _ _ _ _ (by decide)]
    rfl
  · rw [if_neg (by decide), t1 _ _ _ _ (by decide), t1 _ _ _ _ (by decide)]
    rfl
theorem x9_beh (hM : rM σ P) {n : Nat} (hn : σ 157 0 = nI n) {i : Nat} (hi : i < 40) (hv : pV P i) : f_X9_behind σ (nI i) (s (pb P i)) = some (nI (suc P n s i)) := by
  obtain ⟨v1, v2, v3, v4, v5, v6, v7⟩ := id hv
  have e2 : pop P i ≠ 0 → ld σ (159 + i) 2 = some (nI (pa P i)) := fun h => by rw [l_2, ldM hM hi (by decide), (v7 h).1]
  have hb1 : nI i + (1 : Int32) = nI (i + 1) := by rw [l_1, nI_add]
  unfold f_X9_behind J_X9_behind_43 J_X9_behind_39 J_X9_behind_44 suc
  rw [x9_op hM hi, Option.bind_some, v1, hn, Option.bind_some, Option.bind_some, hb1, if_pos (show (0 : Int32) = 0 from rfl), if_neg (show ¬ (1 : Int32) = 0 by decide), ldr_158 hi, Option.bind_some]
  by_cases c12 : pop P i = 12
  · rw [if_pos (show nI (pop P i) = 12 by rw [c12]; rfl), if_pos c12]
  rw [if_neg (show ¬ nI (pop P i) = 12 by rw [l_12, nI_inj (by omega) (by decide)]; exact c12), if_neg c12]
  by_cases c10 : pop P i = 10
  · rw [if_pos (show nI (pop P i) = 10 by rw [c10]; rfl), e2 (by omega), Option.bind_some, if_pos (Or.inl c10)]
  rw [if_neg (show ¬ nI (pop P i) = 10 by rw [l_10, nI_inj (by omega) (by decide)]; exact c10)]
  by_cases c11 : pop P i = 11
  · rw [if_pos (show nI (pop P i) = 11 by rw [c11]; rfl)]
    by_cases cb : s (pb P i) = 0
    · rw [if_pos cb, if_neg (fun q => q.elim c10 (fun w => w.2 cb))]
    · rw [if_neg cb, if_pos (Or.inr ⟨c11, cb⟩), e2 (by omega), Option.bind_some]
  · rw [if_neg (show ¬ nI (pop P i) = 11 by rw [l_11, nI_inj (by omega) (by decide)]; exact c11), if_neg (fun q => q.elim c10 (fun w => c11 w.1))]
end
