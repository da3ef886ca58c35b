/-! THE QUERIES OF THE PROGRAM AND ITS BLOCKS, AND THE TEMPLATES -/
def fr7 (σ τ : sg) : Prop := (∀ r, r ≠ 157 → r ≠ 611 → r ≠ 612 → τ r = σ r) ∧ ∀ k, k ≠ 7 → τ 157 k = σ 157 k
def quOK (f1 : sg → Option Int32) (f2 : sg → Option (Int32 × sg)) (σ : sg) : Prop := ∃ (v : Int32) (τ : sg), f1 σ = some v ∧ f2 σ = some (v, τ) ∧ fr7 σ τ
def roOK (f1 f2 : sg → Option Int32) (σ : sg) : Prop := ∃ v : Int32, f1 σ = some v ∧ f2 σ = some v
theorem fr7_0 {σ : sg} : fr7 σ σ := ⟨fun _ _ _ _ => rfl, fun _ _ => rfl⟩
theorem subT {k : Nat} (h : k < 1000) : (nI k - nI 1).toInt = (k : Int) - 1 := by
  cases k with
  | zero => rfl
  | succ k => rw [nI_sub (by omega), nI_toInt (by omega)]; omega
section
variable {σ : sg} {P : gP} {n : Nat}
theorem has_x6 (hp : iProg σ P n) (x : Int32) : f_X6_has σ x = some (tf (0 ≤ x.toInt ∧ x.toInt < (n : Int))) := by
  obtain ⟨hI, hM, hV, hn1, hn9, hn40⟩ := hp
  rw [x6_has hn1 hn40, tf_if]
theorem has_x9 (hp : iProg σ P n) (x : Int32) : f_X9_isThere σ x = some (tf (0 ≤ x.toInt ∧ x.toInt < (n : Int))) := by
  obtain ⟨hI, hM, hV, hn1, hn9, hn40⟩ := hp
  rw [x9_there hn9 hn40, tf_if]
theorem nI_rg {x : Int32} {n : Nat} (h : 0 ≤ x.toInt ∧ x.toInt < (n : Int)) : ∃ i : Nat, i < n ∧ x = nI i := ⟨x.toInt.toNat, by omega, nI_ofi h.1⟩
theorem size_ok (hp : iProg σ P n) : roOK f_X8_size f_X9_size σ := by
  obtain ⟨hI, hM, hV, hn1, hn9, hn40⟩ := hp
  exact ⟨nI n, congrArg some hn1, congrArg some hn9⟩
theorem part_ok (hp : iProg σ P n) (x y : Int32) : roOK (fun s => f_X8_part s x y) (fun s => f_X9_part s x y) σ := by
  obtain ⟨hI, hM, hV, hn1, hn9, hn40⟩ := id hp
  show ∃ v : Int32, f_X8_part σ x y = some v ∧ f_X9_part σ x y = some v
  unfold f_X8_part f_X9_part
  refine Or.elim (Classical.em (0 ≤ x.toInt ∧ x.toInt < (n : Int))).symm (fun hx => ?_) (fun hx => ?_)
  · exact ⟨-1, by rw [has_x6 hp, Option.bind_some, if_tf, cif_f hx], by rw [has_x9 hp, Option.bind_some, if_tf, cif_f hx]⟩
  obtain ⟨i, hi, rfl⟩ := nI_rg hx
  have e2 : ∀ τ : sg, f_X9_isBetween τ y 0 3 = some (tf (0 ≤ y.toInt ∧ y.toInt < (4 : Nat))) := fun τ => by
    rw [x9_btwt, l_0, l_3, nI_toInt (by decide), nI_toInt (by decide)]
    exact congrArg some (tf_c (by omega))
  refine Or.elim (Classical.em (0 ≤ y.toInt ∧ y.toInt < (4 : Nat))).symm (fun hy => ?_) (fun hy => ?_)
  · refine ⟨-2, ?_, ?_⟩
    · rw [has_x6 hp, Option.bind_some, if_tf, cif_t hx]
      by_cases h0 : y.toInt < 0
      · rw [if_pos (show y < 0 by rw [l_0, ltT (by decide)]; exact h0)]
      · rw [if_neg (show ¬ y < 0 by rw [l_0, ltT (by decide)]; exact h0), if_neg (show ¬ y < 4 by rw [l_4, ltT (by decide)]; omega)]
    · rw [has_x9 hp, Option.bind_some, if_tf, cif_t hx, e2, Option.bind_some, if_tf, cif_f hy]
  obtain ⟨j, hj, rfl⟩ := nI_rg hy
  refine ⟨P i j + 1000, ?_, ?_⟩
  · rw [has_x6 hp, Option.bind_some, if_tf, cif_t hx, if_neg (show ¬ nI j < 0 by rw [l_0, nI_lti (by omega) (by decide)]; omega), if_pos (show nI j < 4 by rw [l_4, nI_lti (by omega) (by decide)]; exact hj), ldr_2 (by omega), Option.bind_some, ldI hI (by omega) hj, Option.bind_some]
  · rw [has_x9 hp, Option.bind_some, if_tf, cif_t hx, e2, Option.bind_some, if_tf, cif_t hy, ldr_158 (by omega), Option.bind_some, ldM hM (by omega) hj, Option.bind_some]
theorem find_ok (hp : iProg σ P n) : ∃ τ, f_X9_findBlocks σ = some τ ∧ fr7 σ τ ∧ BKM τ P n ∧ rM τ P := by
  obtain ⟨hI, hM, hV, hn1, hn9, hn40⟩ := hp
  obtain ⟨τ, h1, h2, h3, h4⟩ := x9_find hM hn9 hn40 hV
  exact ⟨τ, h1, ⟨h2, h3⟩, h4, rM_fr hM (fun r q1 q2 => h2 r (by omega) (by omega) (by omega))⟩
theorem compl_ok (hp : iProg σ P n) : f_X9_isComplete σ = some (tf (cmpl P n)) := by
  obtain ⟨hI, hM, hV, hn1, hn9, hn40⟩ := hp
  exact x9_compl hM hn9 hn40 hV
theorem bc_ok (hp : iProg σ P n) (hb : iBlk σ P n) : quOK f_X8_blockCount f_X9_blockCount σ := by
  show ∃ (v : Int32) (τ : sg), f_X8_blockCount σ = some v ∧ f_X9_blockCount σ = some (v, τ) ∧ fr7 σ τ
  unfold f_X8_blockCount f_X9_blockCount
  obtain ⟨b1, b2, b3⟩ := hb
  refine Or.elim (Classical.em (cmpl P n)).symm (fun hc => ?_) (fun hc => ?_)
  · exact ⟨-6, σ, by rw [if_pos (show σ 57 4 = 0 by rw [b1, tf_0]; exact hc)], by rw [compl_ok hp, Option.bind_some, if_tf, cif_f hc], fr7_0⟩
  obtain ⟨τ, t1, t2, t3, t4⟩ := find_ok hp
  exact ⟨nI (nb P n n), τ, by rw [if_neg (show ¬ σ 57 4 = 0 by rw [b1, tf_0]; exact fun g => g hc), (b2 hc).1], by rw [compl_ok hp, Option.bind_some, if_tf, cif_t hc, t1, Option.bind_some, t3.1], t2⟩
theorem bo_ok (hp : iProg σ P n) (hb : iBlk σ P n) (x : Int32) : quOK (fun s => f_X8_blockOf s x) (fun s => f_X9_blockOf s x) σ := by
  have hn40 := hp.2.2.2.2.2
  show ∃ (v : Int32) (τ : sg), f_X8_blockOf σ x = some v ∧ f_X9_blockOf σ x = some (v, τ) ∧ fr7 σ τ
  unfold f_X8_blockOf f_X9_blockOf
  obtain ⟨b1, b2, b3⟩ := hb
  refine Or.elim (Classical.em (0 ≤ x.toInt ∧ x.toInt < (n : Int))).symm (fun hx => ?_) (fun hx => ?_)
  · exact ⟨-1, σ, by rw [has_x6 hp, Option.bind_some, if_tf, cif_f hx], by rw [has_x9 hp, Option.bind_some, if_tf, cif_f hx], fr7_0⟩
  refine Or.elim (Classical.em (cmpl P n)).symm (fun hc => ?_) (fun hc => ?_)
  · exact ⟨-6, σ, by rw [has_x6 hp, Option.bind_some, if_tf, cif_t hx, if_pos (show σ 57 4 = 0 by rw [b1, tf_0]; exact hc)], by rw [has_x9 hp, Option.bind_some, if_tf, cif_t hx, compl_ok hp, Option.bind_some, if_tf, cif_f hc], fr7_0⟩
  obtain ⟨τ, t1, t2, t3, t4⟩ := find_ok hp
  obtain ⟨i, hi, rfl⟩ := nI_rg hx
  exact ⟨nI (nb P n (i + 1) - 1), τ, by rw [has_x6 hp, Option.bind_some, if_tf, cif_t hx, if_neg (show ¬ σ 57 4 = 0 by rw [b1, tf_0]; exact fun g => g hc), ld_59 (by omega), Option.bind_some, (b2 hc).2.1 i hi], by rw [has_x9 hp, Option.bind_some, if_tf, cif_t hx, compl_ok hp, Option.bind_some, if_tf, cif_t hc, t1, Option.bind_some, ld_611 (by omega), Option.bind_some, t3.2.1 i hi], t2⟩
theorem bb_ok (hp : iProg σ P n) (hb : iBlk σ P n) (x : Int32) : quOK (fun s => f_X8_blockBegin s x) (fun s => f_X9_blockBegin s x) σ := by
  have hn40 := hp.2.2.2.2.2
  have hnb := nb_le P n n
  show ∃ (v : Int32) (τ : sg), f_X8_blockBegin σ x = some v ∧ f_X9_blockBegin σ x = some (v, τ) ∧ fr7 σ τ
  unfold f_X8_blockBegin f_X9_blockBegin
  obtain ⟨b1, b2, b3⟩ := hb
  refine Or.elim (Classical.em (cmpl P n)).symm (fun hc => ?_) (fun hc => ?_)
  · exact ⟨-6, σ, by rw [if_pos (show σ 57 4 = 0 by rw [b1, tf_0]; exact hc)], by rw [compl_ok hp, Option.bind_some, if_tf, cif_f hc], fr7_0⟩
  obtain ⟨τ, t1, t2, t3, t4⟩ := find_ok hp
  have k1 : ¬ σ 57 4 = 0 := by rw [b1, tf_0]; exact fun g => g hc
  have e9 : f_X9_isBetween τ x 0 (τ 157 7 - 1) = some (tf (0 ≤ x.toInt ∧ x.toInt < (nb P n n : Int))) := by
    rw [x9_btwt, t3.1, l_0, l_1, subT (by omega), nI_toInt (by decide)]
    exact congrArg some (tf_c (by omega))
  have e1 : f_X1_has σ x = some (tf (0 ≤ x.toInt ∧ x.toInt < (nb P n n : Int))) := by
    unfold f_X1_has
    by_cases h0 : x.toInt < 0
    · rw [if_pos (show x < 0 by rw [l_0, ltT (by decide)]; exact h0), tf_f (by omega)]; rfl
    · rw [if_neg (show ¬ x < 0 by rw [l_0, ltT (by decide)]; exact h0)]
      by_cases h2 : (nb P n n : Int) ≤ x.toInt
      · rw [if_pos (show σ 57 3 ≤ x by rw [(b2 hc).1, geT (by omega)]; exact h2), tf_f (by omega)]; rfl
      · rw [if_neg (show ¬ σ 57 3 ≤ x by rw [(b2 hc).1, geT (by omega)]; exact h2), tf_t (by omega)]; rfl
  refine Or.elim (Classical.em (0 ≤ x.toInt ∧ x.toInt < (nb P n n : Int))).symm (fun hx => ?_) (fun hx => ?_)
  · exact ⟨-1, τ, by rw [if_neg k1, e1, Option.bind_some, if_tf, cif_f hx], by rw [compl_ok hp, Option.bind_some, if_tf, cif_t hc, t1, Option.bind_some, e9, Option.bind_some, if_tf, cif_f hx], t2⟩
  obtain ⟨i, hi, rfl⟩ := nI_rg hx
  exact ⟨nI (bgn P n i), τ, by rw [if_neg k1, e1, Option.bind_some, if_tf, cif_t hx, ld_58 (by omega), Option.bind_some, (b2 hc).2.2 i (by omega)], by rw [compl_ok hp, Option.bind_some, if_tf, cif_t hc, t1, Option.bind_some, e9, Option.bind_some, if_tf, cif_t hx, ld_612 (by omega), Option.bind_some, t3.2.2 i (by omega)], t2⟩
theorem di_ok (hp : iProg σ P n) (hb : iBlk σ P n) (x y : Int32) : quOK (fun s => f_X8_distance s x y) (fun s => f_X9_distance s x y) σ := by
  obtain ⟨hI, hM, hV, hn1, hn9, hn40⟩ := id hp
  have hnb := nb_le P n n
  show ∃ (v : Int32) (τ : sg), f_X8_distance σ x y = some v ∧ f_X9_distance σ x y = some (v, τ) ∧ fr7 σ τ
  unfold f_X8_distance f_X9_distance J_X9_distance_52
  obtain ⟨b1, b2, b3⟩ := hb
  refine Or.elim (Classical.em (0 ≤ x.toInt ∧ x.toInt < (n : Int))).symm (fun hx => ?_) (fun hx => ?_)
  · exact ⟨-1, σ, by rw [has_x6 hp, Option.bind_some, if_tf, cif_f hx], by rw [has_x9 hp, Option.bind_some, if_tf, cif_f hx], fr7_0⟩
  refine Or.elim (Classical.em (0 ≤ y.toInt ∧ y.toInt < (n : Int))).symm (fun hy => ?_) (fun hy => ?_)
  · exact ⟨-1, σ, by rw [has_x6 hp, Option.bind_some, if_tf, cif_t hx, has_x6 hp, Option.bind_some, if_tf, cif_f hy], by rw [has_x9 hp, Option.bind_some, if_tf, cif_t hx, has_x9 hp, Option.bind_some, if_tf, cif_f hy], fr7_0⟩
  refine Or.elim (Classical.em (cmpl P n)).symm (fun hc => ?_) (fun hc => ?_)
  · exact ⟨-6, σ, by rw [has_x6 hp, Option.bind_some, if_tf, cif_t hx, has_x6 hp, Option.bind_some, if_tf, cif_t hy, if_pos (show σ 57 4 = 0 by rw [b1, tf_0]; exact hc)], by rw [has_x9 hp, Option.bind_some, if_tf, cif_t hx, has_x9 hp, Option.bind_some, if_tf, cif_t hy, compl_ok hp, Option.bind_some, if_tf, cif_f hc], fr7_0⟩
  obtain ⟨τ, t1, t2, t3, t4⟩ := find_ok hp
  have k1 : ¬ σ 57 4 = 0 := by rw [b1, tf_0]; exact fun g => g hc
  obtain ⟨i, hi, rfl⟩ := nI_rg hx
  obtain ⟨j, hj, rfl⟩ := nI_rg hy
  by_cases hle : j ≤ i
  · exact ⟨-2, τ, by rw [has_x6 hp, Option.bind_some, if_tf, cif_t hx, has_x6 hp, Option.bind_some, if_tf, cif_t hy, if_neg k1, if_pos (show nI j ≤ nI i by rw [nI_lei (by omega) (by omega)]; exact hle)], by rw [has_x9 hp, Option.bind_some, if_tf, cif_t hx, has_x9 hp, Option.bind_some, if_tf, cif_t hy, compl_ok hp, Option.bind_some, if_tf, cif_t hc, t1, Option.bind_some, if_pos (show nI j ≤ nI i by rw [nI_lei (by omega) (by omega)]; exact hle)], t2⟩
  have k2 : ¬ nI j ≤ nI i := by rw [nI_lei (by omega) (by omega)]; exact hle
  by_cases he : nI (nb P n (i + 1) - 1) = nI (nb P n (j + 1) - 1)
  · refine ⟨dv (gd P i j), τ, ?_, ?_, t2⟩
    · rw [has_x6 hp, Option.bind_some, if_tf, cif_t hx, has_x6 hp, Option.bind_some, if_tf, cif_t hy, if_neg k1, if_neg k2, ld_59 (by omega), Option.bind_some, ld_59 (by omega), Option.bind_some, if_pos (show σ 59 i = σ 59 j by rw [(b2 hc).2.1 i hi, (b2 hc).2.1 j hj]; exact he), x6_gap hI (by omega) (by omega) (hV i (by omega)) (hV j (by omega)), Option.bind_some]
    · rw [has_x9 hp, Option.bind_some, if_tf, cif_t hx, has_x9 hp, Option.bind_some, if_tf, cif_t hy, compl_ok hp, Option.bind_some, if_tf, cif_t hc, t1, Option.bind_some, if_neg k2, ld_611 (by omega), Option.bind_some, ld_611 (by omega), Option.bind_some, if_pos (show τ 611 i = τ 611 j by rw [t3.2.1 i hi, t3.2.1 j hj]; exact he), x9_dist t4 (by omega) (by omega) (hV i (by omega)) (hV j (by omega)), Option.bind_some]
  · refine ⟨-2, τ, ?_, ?_, t2⟩
    · rw [has_x6 hp, Option.bind_some, if_tf, cif_t hx, has_x6 hp, Option.bind_some, if_tf, cif_t hy, if_neg k1, if_neg k2, ld_59 (by omega), Option.bind_some, ld_59 (by omega), Option.bind_some, if_neg (show ¬ σ 59 i = σ 59 j by rw [(b2 hc).2.1 i hi, (b2 hc).2.1 j hj]; exact he)]
    · rw [has_x9 hp, Option.bind_some, if_tf, cif_t hx, has_x9 hp, Option.bind_some, if_tf, cif_t hy, compl_ok hp, Option.bind_some, if_tf, cif_t hc, t1, Option.bind_some, if_neg k2, ld_611 (by omega), Option.bind_some, ld_611 (by omega), Option.bind_some, if_neg (show ¬ τ 611 i = τ 611 j by rw [t3.2.1 i hi, t3.2.1 j hj]; exact he)]
end
