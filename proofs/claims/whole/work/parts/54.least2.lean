/-! LEAST, both sides -/
def leD (r k : Nat) : Prop := (72 ≤ r ∧ r ≤ 74) ∨ (r = 157 ∧ (k = 7 ∨ k = 13 ∨ k = 14 ∨ k = 15 ∨ k = 22)) ∨ r = 611 ∨ r = 612 ∨ r = 623 ∨ r = 624
def leOK (f1 f2 : sg → Option (Int32 × sg)) (σ : sg) : Prop := ∃ (v : Int32) (σ1 σ2 : sg), f1 σ = some (v, σ1) ∧ f2 σ1 = some (v, σ2) ∧ ∀ r k, ¬ leD r k → σ2 r k = σ r k
/-- the templates of both sides as numbers -/
theorem tp_nats {σ : sg} {tc : Nat} (ht : iTmp σ tc) : ∃ (T : Nat → Nat → Nat) (M : Nat → Nat), ∀ t, t < tc → tpI σ t (T t) (M t) ∧ tpM σ t (T t) (M t) := by
  obtain ⟨t1, t2, t8, tt⟩ := ht
  refine ⟨fun t j => (σ (63 + t) j).toNatClampNeg, fun t => (σ 71 t).toNatClampNeg, fun t h => ?_⟩
  obtain ⟨a1, ⟨y, y1, y2⟩, a3⟩ := tt t h
  have e1 : (σ 71 t).toNatClampNeg = y := by rw [y2, nI_clamp (by omega)]
  have e2 : ∀ j, j < 3 → σ (63 + t) j = nI ((σ (63 + t) j).toNatClampNeg) ∧ (σ (63 + t) j).toNatClampNeg < 4 := fun j hj => by
    obtain ⟨c1, w, w1, w2⟩ := a3 j hj
    rw [w2, nI_clamp (by omega)]
    exact ⟨rfl, w1⟩
  refine ⟨⟨by omega, ?_, ?_, e2⟩, by omega, ?_, ?_, fun j hj => ?_⟩
  · show σ 71 t = nI ((σ 71 t).toNatClampNeg)
    rw [e1]; exact y2
  · show (σ 71 t).toNatClampNeg < 8
    rw [e1]; exact y1
  · show σ 622 t = nI ((σ 71 t).toNatClampNeg)
    rw [a1, e1]; exact y2
  · show (σ 71 t).toNatClampNeg < 8
    rw [e1]; exact y1
  · rw [(a3 j hj).1]; exact e2 j hj
section
variable {σ : sg} {P : gP} {n : Nat} {tc : Nat}
theorem le_ok (hp : iProg σ P n) (hb : iBlk σ P n) (ht : iTmp σ tc) (x y : Int32) : leOK (fun s => f_X8_least s x y) (fun s => f_X9_least s x y) σ := by
  obtain ⟨hI, hM, hV, hn1, hn9, hn40⟩ := id hp
  have hnb := nb_le P n n
  obtain ⟨b1, b2, b3⟩ := hb
  show ∃ (v : Int32) (σ1 σ2 : sg), f_X8_least σ x y = some (v, σ1) ∧ f_X9_least σ1 x y = some (v, σ2) ∧ ∀ r k, ¬ leD r k → σ2 r k = σ r k
  unfold f_X8_least f_X9_least
  refine Or.elim (Classical.em (cmpl P n)).symm (fun hc => ?_) (fun hc => ?_)
  · exact ⟨-6, σ, σ, by rw [if_pos (show σ 57 4 = 0 by rw [b1, tf_0]; exact hc)], by rw [compl_ok hp, Option.bind_some, if_tf, cif_f hc], fun _ _ _ => rfl⟩
  rw [if_neg (show ¬ σ 57 4 = 0 by rw [b1, tf_0]; exact fun q => q hc), x1_hasT (b2 hc).1 (by omega), Option.bind_some, if_tf]
  obtain ⟨τ, t1, t2, t3, t4⟩ := find_ok hp
  have fr1 : ∀ r k, ¬ leD r k → τ r k = σ r k := fun r k h => by
    unfold leD at h
    by_cases e : r = 157
    · subst e; exact t2.2 k (by omega)
    · rw [t2.1 r e (by omega) (by omega)]
  have e9 : f_X9_isBetween τ x 0 (τ 157 7 - 1) = some (tf (0 ≤ x.toInt ∧ x.toInt < (nb P n n : Int))) := by
    rw [x9_btwt, t3.1, l_0, l_1, subT (by omega), nI_toInt (by decide)]
    exact congrArg some (tf_c (by omega))
  have ey : ∀ υ : sg, f_X9_isBetween υ y 0 4 = some (tf (0 ≤ y.toInt ∧ y.toInt < (5 : Nat))) := fun υ => by
    rw [x9_btwt, l_0, l_4, nI_toInt (by decide), nI_toInt (by decide)]
    exact congrArg some (tf_c (by omega))
  refine Or.elim (Classical.em (0 ≤ x.toInt ∧ x.toInt < (nb P n n : Int))).symm (fun hx => ?_) (fun hx => ?_)
  · exact ⟨-1, σ, τ, cif_f hx, by rw [compl_ok hp, Option.bind_some, if_tf, cif_t hc, t1, Option.bind_some, e9, Option.bind_some, if_tf, cif_f hx], fr1⟩
  rw [cif_t hx]
  refine Or.elim (Classical.em (0 ≤ y.toInt ∧ y.toInt < (5 : Nat))).symm (fun hy => ?_) (fun hy => ?_)
  · refine ⟨-2, σ, τ, ?_, by rw [compl_ok hp, Option.bind_some, if_tf, cif_t hc, t1, Option.bind_some, e9, Option.bind_some, if_tf, cif_t hx, ey, Option.bind_some, if_tf, cif_f hy], fr1⟩
    by_cases y0 : y.toInt < 0
    · rw [if_pos (show y < 0 by rw [l_0, ltT (by decide)]; exact y0)]
    · rw [if_neg (show ¬ y < 0 by rw [l_0, ltT (by decide)]; exact y0), if_neg (show ¬ y ≤ 4 by rw [l_4, leT (by decide)]; omega)]
  obtain ⟨u, hu, rfl⟩ := nI_rg hx
  obtain ⟨m, hm, rfl⟩ := nI_rg hy
  rw [if_neg (show ¬ nI m < 0 by rw [l_0, nI_lti (by omega) (by decide)]; omega), if_pos (show nI m ≤ 4 by rw [l_4, nI_lei (by omega) (by decide)]; omega), ld_58 (by omega), Option.bind_some, l_1, nI_add, ld_58 (by omega), Option.bind_some, (b2 hc).2.2 u (by omega), (b2 hc).2.2 (u + 1) (by omega)]
  obtain ⟨T, M, hTM⟩ := tp_nats ht
  obtain ⟨ht1, ht2, ht8, _⟩ := ht
  have hlt := bgn_lt (P := P) hu
  have hle := bgn_le (P := P) (n := n) (u + 1)
  obtain ⟨b, eb⟩ : ∃ b, b = bgn P n u := ⟨_, rfl⟩
  obtain ⟨e, ee⟩ : ∃ e, e = bgn P n (u + 1) := ⟨_, rfl⟩
  rw [← eb, ← ee]
  rw [← eb, ← ee] at hlt
  rw [← ee] at hle
  obtain ⟨s0, hs0⟩ : ∃ s0 : FS, s0 = (b, 0, (fun _ => 0), fun _ => 0) := ⟨_, rfl⟩
  have hok0 : okFS b e 0 s0 := by
    rw [hs0]
    exact aB_ok (PL := fun _ _ => 0) (by omega)
  have s01 : s0.1 = b := by rw [hs0]
  have s02 : s0.2.1 = 0 := by rw [hs0]
  -- the class
  have hcl : ∃ (v : Int32) (σ1 : sg), ((f_X2_enter σ (nI b) (nI e)).bind fun s64 => L_X8_least_70 (nI m) (nI b) gN (nI 1, s64)) = some (v, σ1) ∧ (∀ r, r ≠ 72 → r ≠ 73 → r ≠ 74 → σ1 r = σ r) ∧ ((v = mI 4 ∧ ∀ k, k ≤ m → ¬ canP P b e T M tc k s0) ∨ ∃ k, v = nI k ∧ k ≤ m ∧ canP P b e T M tc k s0 ∧ ∀ k', k' < k → ¬ canP P b e T M tc k' s0) := by
    unfold f_X2_enter L_X8_least_70
    rw [Option.bind_some, Option.bind_some, Option.bind_some]
    obtain ⟨τ1, hτ1⟩ : ∃ τ1, τ1 = up (up σ 72 4 (nI b)) 72 5 (nI e) := ⟨_, rfl⟩
    rw [← hτ1]
    have u' : ∀ r, r ≠ 72 → τ1 r = σ r := fun r hr => by rw [hτ1, up_r hr, up_r hr]
    refine Exists.elim (loop_c2 (F := B_X8_least_70 (nI m) (nI b)) m (fun k a υ => a = nI (k + 1) ∧ (∀ k', k' < k + 1 → ¬ canP P b e T M tc k' s0) ∧ υ 72 4 = nI b ∧ υ 72 5 = nI e ∧ ∀ r, r ≠ 72 → r ≠ 73 → r ≠ 74 → υ r = σ r) (fun z => (∀ r, r ≠ 72 → r ≠ 73 → r ≠ 74 → z.2 r = σ r) ∧ ((z.1 = mI 4 ∧ ∀ k, k ≤ m → ¬ canP P b e T M tc k s0) ∨ ∃ k, z.1 = nI k ∧ k ≤ m ∧ canP P b e T M tc k s0 ∧ ∀ k', k' < k → ¬ canP P b e T M tc k' s0)) (fun k a υ hk hR => ?_) (fu := gN) (gN_gt (by omega)) (a := nI 1) (b := τ1) ⟨rfl, fun k' h' => by
      rw [show k' = 0 by omega]
      exact can_0 (by omega), by rw [hτ1, up_k (by decide), up_same], by rw [hτ1, up_same], fun r q1 _ _ => u' r q1⟩) (fun z hz => ⟨z.1, z.2, hz.1, hz.2⟩)
    obtain ⟨rfl, hno, υ4, υ5, hfr⟩ := hR
    unfold B_X8_least_70
    by_cases km : k = m
    · rw [if_pos (show nI m < nI (k + 1) by rw [nI_lti (by omega) (by omega)]; omega)]
      exact Or.inr ⟨_, rfl, hfr, Or.inl ⟨rfl, fun k' h' => hno k' (by omega)⟩⟩
    · rw [if_neg (show ¬ nI m < nI (k + 1) by rw [nI_lti (by omega) (by omega)]; omega)]
      obtain ⟨ω, w1, w2, w3, w4⟩ := x8_into (b := b) (e := e) (T := T) (M := M) hV (by omega) ht8 8 (k + 1) (by omega) υ s0 0 (rI_fr hI (fun r q1 q2 => hfr r (by omega) (by omega) (by omega))) (by rw [hfr 61 (by decide) (by decide) (by decide)]; exact ht1) (fun t h => by
        obtain ⟨a1, a2, a3, a4⟩ := (hTM t h).1
        exact ⟨a1, by rw [hfr 71 (by decide) (by decide) (by decide)]; exact a2, a3, fun j hj => by rw [hfr (63 + t) (by omega) (by omega) (by omega)]; exact a4 j hj⟩) υ4 υ5 hok0 (by omega) (by omega) (fun i q1 q2 => by omega)
      rw [s01, s02] at w1
      have hfrω : ∀ r, r ≠ 72 → r ≠ 73 → r ≠ 74 → ω r = σ r := fun r q1 q2 q3 => by rw [w3 r q1 q2 q3, hfr r q1 q2 q3]
      rw [l_0, w1, Option.bind_some]
      by_cases cc : canP P b e T M tc (k + 1) s0
      · rw [tf_t cc, if_neg (show ¬ nI 1 = nI 0 by decide)]
        exact Or.inr ⟨_, rfl, hfrω, Or.inr ⟨k + 1, rfl, by omega, cc, hno⟩⟩
      · rw [tf_f cc, if_pos (show nI 0 = nI 0 from rfl)]
        refine Or.inl ⟨_, ω, rfl, by omega, by rw [l_1, nI_add], fun k' h' => ?_, by rw [w4 4 (by decide) (by decide)]; exact υ4, by rw [w4 5 (by decide) (by decide)]; exact υ5, hfrω⟩
        by_cases ek : k' = k + 1
        · rw [ek]; exact cc
        · exact hno k' (by omega)
  obtain ⟨v, σ1, c1, c2, c3⟩ := hcl
  have hp1 : iProg σ1 P n := ⟨rI_fr hI (fun r q1 q2 => c2 r (by omega) (by omega) (by omega)), rM_fr hM (fun r q1 q2 => c2 r (by omega) (by omega) (by omega)), hV, by rw [c2 1 (by decide) (by decide) (by decide)]; exact hn1, by rw [c2 157 (by decide) (by decide) (by decide)]; exact hn9, hn40⟩
  obtain ⟨τ', t1', t2', t3', t4'⟩ := find_ok hp1
  have e9' : f_X9_isBetween τ' (nI u) 0 (τ' 157 7 - nI 1) = some (tf (0 ≤ (nI u).toInt ∧ (nI u).toInt < (nb P n n : Int))) := by
    rw [x9_btwt, t3'.1, l_0, subT (by omega), nI_toInt (by decide)]
    exact congrArg some (tf_c (by omega))
  have bb : ∀ i, b ≤ i → i < e → up τ' 157 22 (nI (m + 1)) 611 i = nI u := fun i q1 q2 => by
    rw [up_r (by decide), t3'.2.1 i (by omega), blk_of hu (by omega) (by omega)]; rfl
  obtain ⟨ω, f', w1, w2, w3, w4, w5, w6, w7⟩ := x9_search (b := b) (e := e) (T := T) (M := M) (tc := tc) hV (by omega) ht8 (tb := u) (by omega) 8 m (by omega) (up τ' 157 22 (nI (m + 1))) s0 0 0 (m + 1) (rM_fr t4' (fun r q1 q2 => up_r (by omega))) (by rw [up_k (by decide), t2'.2 8 (by decide), c2 157 (by decide) (by decide) (by decide)]; exact ht2) (fun t h => by
    obtain ⟨a1, a2, a3, a4⟩ := (hTM t h).2
    exact ⟨a1, by rw [up_r (by decide), t2'.1 622 (by decide) (by decide) (by decide), c2 622 (by decide) (by decide) (by decide)]; exact a2, a3, fun j hj => by rw [up_r (by omega), t2'.1 (614 + t) (by omega) (by omega) (by omega), c2 (614 + t) (by omega) (by omega) (by omega)]; exact a4 j hj⟩) bb (by rw [up_r (by decide), eb]; exact t3'.2.2 u (by omega)) hok0 (by omega) (by omega) (by omega) (fun i q1 q2 => by omega) (up_same _ _ _ _)
  rw [s01, s02, Nat.zero_add] at w1
  have fr2 : ∀ r k, ¬ leD r k → ω r k = σ r k := fun r k h => by
    unfold leD at h
    by_cases e : r = 157
    · subst e
      rw [w7 k (by omega) (by omega) (by omega) (by omega), up_k (by omega), t2'.2 k (by omega), c2 157 (by decide) (by decide) (by decide)]
    · rw [w6 r e (by omega) (by omega), up_r e, t2'.1 r e (by omega) (by omega), c2 r (by omega) (by omega) (by omega)]
  refine ⟨v, σ1, ω, c1, ?_, fr2⟩
  rw [compl_ok hp1, Option.bind_some, if_tf, cif_t hc, t1', Option.bind_some, e9', Option.bind_some, if_tf, cif_t hx, ey, Option.bind_some, if_tf, cif_t hy, Option.bind_some, nI_add, ld_612 (by omega), Option.bind_some, up_r (show 612 ≠ 157 by decide), t3'.2.2 u (by omega), ld_612 (by omega), Option.bind_some, up_r (show 612 ≠ 157 by decide), t3'.2.2 (u + 1) (by omega), ← eb, ← ee, l_0, w1, Option.bind_some, w2]
  rcases c3 with ⟨rfl, hno⟩ | ⟨k, rfl, k1, k2, k3⟩
  · rw [if_neg (show ¬ nI f' ≤ nI m by
      rw [nI_lei (by omega) (by omega), w4 m]
      rintro (h | ⟨k, q1, q2, q3⟩)
      · omega
      · exact hno k q1 q3)]
    rfl
  · have e1 : f' ≤ k := (w4 k).mpr (Or.inr ⟨k, k1, by omega, k2⟩)
    have e2 : f' = k := by
      by_cases q : k = 0
      · omega
      · by_cases q2 : f' ≤ k - 1
        · rcases (w4 (k - 1)).mp q2 with h | ⟨k', h1, h2, h3⟩
          · omega
          · exact absurd h3 (k3 k' (by omega))
        · omega
    rw [if_pos (show nI f' ≤ nI m by rw [nI_lei (by omega) (by omega)]; omega), e2]
end
