/-! WHAT A PACKING ANSWERS -/
/-- the bundles of both sides are the same, c of them -/
def iBun (σ : sg) (c : Nat) : Prop := σ 75 11 = nI c ∧ σ 157 17 = nI c ∧ c ≤ 60 ∧ ∀ k, k < c → σ 137 k = σ 727 k ∧ σ 138 k = σ 728 k ∧ ∀ j, j < 3 → σ (77 + k) j = σ (626 + k) j
/-- both packed, or both not -/
def iFlg (σ : sg) (z : Prop) : Prop := σ 75 12 = tf z ∧ σ 157 16 = tf z
section
variable {σ : sg} {P : gP} {n c : Nat} {z : Prop}
theorem bn_ok (hf : iFlg σ z) (hb : z → iBun σ c) : roOK f_X8_bundleCount f_X9_bundleCount σ := by
  unfold roOK f_X8_bundleCount f_X9_bundleCount
  by_cases hz : z
  · exact ⟨nI c, by rw [if_neg (show ¬ σ 75 12 = 0 by rw [hf.1, tf_0]; exact fun g => g hz), (hb hz).1], by rw [if_neg (show ¬ σ 157 16 = 0 by rw [hf.2, tf_0]; exact fun g => g hz), (hb hz).2.1]⟩
  · exact ⟨-5, by rw [if_pos (show σ 75 12 = 0 by rw [hf.1, tf_0]; exact hz)], by rw [if_pos (show σ 157 16 = 0 by rw [hf.2, tf_0]; exact hz)]⟩
theorem es_ok (hp : iProg σ P n) (hf : iFlg σ z) (hb : z → iBun σ c) : roOK f_X8_emptySlots f_X9_emptySlots σ := by
  obtain ⟨hI, hM, hV, hn1, hn9, hn40⟩ := id hp
  unfold roOK f_X8_emptySlots f_X9_emptySlots
  by_cases hz : z
  · exact ⟨nI c * 3 - nI n, by rw [if_neg (show ¬ σ 75 12 = 0 by rw [hf.1, tf_0]; exact fun g => g hz), (hb hz).1, hn1], by rw [if_neg (show ¬ σ 157 16 = 0 by rw [hf.2, tf_0]; exact fun g => g hz), (hb hz).2.1, hn9, Int32.mul_comm]⟩
  · exact ⟨-5, by rw [if_pos (show σ 75 12 = 0 by rw [hf.1, tf_0]; exact hz)], by rw [if_pos (show σ 157 16 = 0 by rw [hf.2, tf_0]; exact hz)]⟩
theorem pl_ok (hp : iProg σ P n) (hf : iFlg σ z) {PL : gP} (h1 : plI σ PL) (h9 : plM σ PL) (x y : Int32) : roOK (fun s => f_X8_placeOf s x y) (fun s => f_X9_placeOf s x y) σ := by
  have hn40 := hp.2.2.2.2.2
  show ∃ v : Int32, f_X8_placeOf σ x y = some v ∧ f_X9_placeOf σ x y = some v
  unfold f_X8_placeOf f_X9_placeOf
  by_cases hz : ¬ z
  · exact ⟨-5, by rw [if_pos (show σ 75 12 = 0 by rw [hf.1, tf_0]; exact hz)], by rw [if_pos (show σ 157 16 = 0 by rw [hf.2, tf_0]; exact hz)]⟩
  rw [if_neg (show ¬ σ 75 12 = 0 by rw [hf.1, tf_0]; exact hz), if_neg (show ¬ σ 157 16 = 0 by rw [hf.2, tf_0]; exact hz), has_x6 hp, has_x9 hp, Option.bind_some, Option.bind_some, if_tf, if_tf]
  refine Or.elim (Classical.em (0 ≤ x.toInt ∧ x.toInt < (n : Int))).symm (fun hx => ?_) (fun hx => ?_)
  · exact ⟨-1, cif_f hx, cif_f hx⟩
  rw [cif_t hx, cif_t hx]
  obtain ⟨i, hi, rfl⟩ := nI_rg hx
  have hi40 : i < 40 := by omega
  have e2 : f_X9_isBetween σ y 0 2 = some (tf (0 ≤ y.toInt ∧ y.toInt < (3 : Nat))) := by
    rw [x9_btwt, l_0, l_2, nI_toInt (by decide), nI_toInt (by decide)]
    exact congrArg some (tf_c (by omega))
  rw [e2, Option.bind_some, if_tf]
  refine Or.elim (Classical.em (0 ≤ y.toInt ∧ y.toInt < (3 : Nat))).symm (fun hy => ?_) (fun hy => ?_)
  · exact ⟨-2, by rw [if_neg (show ¬ y = 0 by rw [l_0, eqT (by decide)]; omega), if_neg (show ¬ y = 1 by rw [l_1, eqT (by decide)]; omega), if_neg (show ¬ y = 2 by rw [l_2, eqT (by decide)]; omega)], cif_f hy⟩
  rw [cif_t hy]
  obtain ⟨j, hj, rfl⟩ := nI_rg hy
  rw [ldr_686 hi40, Option.bind_some, ldw_687 hi40 hj, Option.bind_some, h9 i j hi40 hj]
  rcases (show j = 0 ∨ j = 1 ∨ j = 2 by omega) with rfl | rfl | rfl
  · exact ⟨PL i 0, by rw [if_pos (show nI 0 = 0 from rfl), ld_139 hi40, Option.bind_some, (h1 i hi40).1], rfl⟩
  · exact ⟨PL i 1, by rw [if_neg (show ¬ nI 1 = 0 by decide), if_pos (show nI 1 = 1 from rfl), ld_140 hi40, Option.bind_some, (h1 i hi40).2.1], rfl⟩
  · exact ⟨PL i 2, by rw [if_neg (show ¬ nI 2 = 0 by decide), if_neg (show ¬ nI 2 = 1 by decide), if_pos (show nI 2 = 2 from rfl), ld_141 hi40, Option.bind_some, (h1 i hi40).2.2], rfl⟩
theorem bu_ok (hf : iFlg σ z) (hb : z → iBun σ c) (x y : Int32) : roOK (fun s => f_X8_bundle s x y) (fun s => f_X9_bundle s x y) σ := by
  show ∃ v : Int32, f_X8_bundle σ x y = some v ∧ f_X9_bundle σ x y = some v
  unfold f_X8_bundle f_X9_bundle
  by_cases hz : ¬ z
  · exact ⟨-5, by rw [if_pos (show σ 75 12 = 0 by rw [hf.1, tf_0]; exact hz)], by rw [if_pos (show σ 157 16 = 0 by rw [hf.2, tf_0]; exact hz)]⟩
  obtain ⟨h1, h9, hc, hk⟩ := hb (Classical.not_not.mp hz)
  have ex : f_X9_isBetween σ x 0 (σ 157 17 - 1) = some (tf (0 ≤ x.toInt ∧ x.toInt < (c : Int))) := by
    rw [x9_btwt, h9, l_0, l_1, subT (by omega), nI_toInt (by decide)]
    exact congrArg some (tf_c (by omega))
  have ey : f_X9_isBetween σ y 0 4 = some (tf (0 ≤ y.toInt ∧ y.toInt < (5 : Nat))) := by
    rw [x9_btwt, l_0, l_4, nI_toInt (by decide), nI_toInt (by decide)]
    exact congrArg some (tf_c (by omega))
  rw [if_neg (show ¬ σ 75 12 = 0 by rw [hf.1, tf_0]; exact hz), if_neg (show ¬ σ 157 16 = 0 by rw [hf.2, tf_0]; exact hz), ex, Option.bind_some, if_tf]
  by_cases x0 : x.toInt < 0
  · exact ⟨-1, by rw [if_pos (show x < 0 by rw [l_0, ltT (by decide)]; exact x0)], by rw [cif_f (by omega)]⟩
  rw [if_neg (show ¬ x < 0 by rw [l_0, ltT (by decide)]; exact x0)]
  refine Or.elim (Classical.em (x.toInt < (c : Int))).symm (fun x1 => ?_) (fun x1 => ?_)
  · exact ⟨-1, by rw [if_neg (show ¬ x < σ 75 11 by rw [h1, ltT (by omega)]; exact x1)], by rw [cif_f (by omega)]⟩
  rw [if_pos (show x < σ 75 11 by rw [h1, ltT (by omega)]; exact x1), cif_t (by omega), ey, Option.bind_some, if_tf]
  by_cases y0 : y.toInt < 0
  · exact ⟨-2, by rw [if_pos (show y < 0 by rw [l_0, ltT (by decide)]; exact y0)], by rw [cif_f (by omega)]⟩
  rw [if_neg (show ¬ y < 0 by rw [l_0, ltT (by decide)]; exact y0)]
  refine Or.elim (Classical.em (y.toInt ≤ (4 : Nat))).symm (fun y1 => ?_) (fun y1 => ?_)
  · exact ⟨-2, by rw [if_neg (show ¬ y ≤ 4 by rw [l_4, leT (by decide)]; exact y1)], by rw [cif_f (by omega)]⟩
  rw [if_pos (show y ≤ 4 by rw [l_4, leT (by decide)]; exact y1), cif_t (by omega)]
  obtain ⟨t, htc, rfl⟩ := nI_rg (n := c) ⟨by omega, x1⟩
  obtain ⟨j, hj, rfl⟩ := nI_rg (x := y) (n := 5) ⟨by omega, by omega⟩
  have ht60 : t < 60 := by omega
  by_cases e3 : j = 3
  · subst e3
    exact ⟨σ 727 t, by rw [if_pos (show nI 3 = 3 from rfl), ld_137 ht60, Option.bind_some, (hk t htc).1], by rw [if_pos (show 3 ≤ nI 3 by decide), if_pos (show nI 3 = 3 from rfl), ld_727 ht60, Option.bind_some]⟩
  by_cases e4 : j = 4
  · subst e4
    exact ⟨σ 728 t, by rw [if_neg (show ¬ nI 4 = 3 by decide), if_pos (show nI 4 = 4 from rfl), ld_138 ht60, Option.bind_some, (hk t htc).2.1], by rw [if_pos (show 3 ≤ nI 4 by decide), if_neg (show ¬ nI 4 = 3 by decide), ld_728 ht60, Option.bind_some]⟩
  have hj3 : j < 3 := by omega
  exact ⟨σ (626 + t) j, by rw [if_neg (show ¬ nI j = 3 by rw [l_3, nI_inj (by omega) (by decide)]; exact e3), if_neg (show ¬ nI j = 4 by rw [l_4, nI_inj (by omega) (by decide)]; exact e4), ldr_76 ht60, Option.bind_some, ldw_77 ht60 hj3, Option.bind_some, (hk t htc).2.2 j hj3], by rw [if_neg (show ¬ 3 ≤ nI j by rw [l_3, nI_lei (by decide) (by omega)]; omega), ldr_625 ht60, Option.bind_some, ldw_626 ht60 hj3, Option.bind_some]⟩
/-- the packing is given up -/
theorem un_ok (hf : iFlg σ z) (hb : z → iBun σ c) : ∃ (v : Int32) (σ1 σ2 : sg), f_X8_unpack σ = some (v, σ1) ∧ f_X9_unpack σ1 = some (v, σ2) ∧ iFlg σ2 False ∧ (∀ r, r ≠ 75 → r ≠ 157 → σ2 r = σ r) ∧ (∀ k, k ≠ 12 → σ2 75 k = σ 75 k) ∧ ∀ k, k ≠ 16 → σ2 157 k = σ 157 k := by
  unfold f_X8_unpack f_X9_unpack
  by_cases hz : ¬ z
  · refine ⟨-5, σ, σ, by rw [if_pos (show σ 75 12 = 0 by rw [hf.1, tf_0]; exact hz)], by rw [if_pos (show σ 157 16 = 0 by rw [hf.2, tf_0]; exact hz)], ⟨?_, ?_⟩, fun _ _ _ => rfl, fun _ _ => rfl, fun _ _ => rfl⟩
    · rw [hf.1]; exact tf_c ⟨fun g => hz g, False.elim⟩
    · rw [hf.2]; exact tf_c ⟨fun g => hz g, False.elim⟩
  obtain ⟨h1, h9, hc, hk⟩ := hb (Classical.not_not.mp hz)
  refine ⟨nI c, up σ 75 12 (nI 0), up (up σ 75 12 (nI 0)) 157 16 (nI 0), ?_, ?_, ⟨?_, ?_⟩, fun r q1 q2 => by rw [up_r q2, up_r q1], fun k hk => by rw [up_r (by decide), up_k hk], fun k hk => by rw [up_k hk, up_r (by decide)]⟩
  · rw [if_neg (show ¬ σ 75 12 = 0 by rw [hf.1, tf_0]; exact hz), Option.bind_some, up_k (show 11 ≠ 12 by decide), h1, l_0]
  · rw [if_neg (show ¬ up σ 75 12 (nI 0) 157 16 = 0 by rw [up_r (by decide), hf.2, tf_0]; exact hz), Option.bind_some, up_k (show 17 ≠ 16 by decide), up_r (show 157 ≠ 75 by decide), h9, l_0]
  · rw [up_r (by decide), up_same, tf_false]
  · rw [up_same, tf_false]
end
