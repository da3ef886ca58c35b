/-! THE LAW OVER STATES: it answers 1 -/
section
variable {β : Type} {σ : sg} {K : sg → Option (β ⊕ Int32)}
theorem ca2 {f1 : Option (Int32 × sg)} {f2 : sg → Option (Int32 × sg)} {w : Int32} {s1 s2 : sg} (h1 : f1 = some (w, s1)) (h2 : f2 s1 = some (w, s2)) : (f1.bind fun q => (f2 q.2).bind fun r => if q.1 = r.1 then K r.2 else some (.inr (0 : Int32))) = K s2 := by
  subst h1
  show ((f2 s1).bind fun r => if w = r.1 then K r.2 else some (.inr (0 : Int32))) = K s2
  rw [h2]
  exact if_pos rfl
theorem ca1 {f1 : Option Int32} {f2 : Option (Int32 × sg)} {w : Int32} {s2 : sg} (h1 : f1 = some w) (h2 : f2 = some (w, s2)) : (f1.bind fun v => f2.bind fun r => if v = r.1 then K r.2 else some (.inr (0 : Int32))) = K s2 := by
  subst h1
  subst h2
  exact if_pos rfl
theorem ca0 {f1 f2 : Option Int32} {w : Int32} (h1 : f1 = some w) (h2 : f2 = some w) : (f1.bind fun v => f2.bind fun u => if v = u then K σ else some (.inr (0 : Int32))) = K σ := by
  subst h1
  subst h2
  exact if_pos rfl
theorem caL {f1 f2 : Option Int64} {w : Int64} (h1 : f1 = some w) (h2 : f2 = some w) : (f1.bind fun v => f2.bind fun u => if lg_cmp v u = 0 then K σ else some (.inr (0 : Int32))) = K σ := by
  subst h1
  subst h2
  exact if_pos ((lg_cmp_eq w w).mpr rfl)
end
theorem law_end {L x : Nat} (hL : L ≤ 3072) (hx : x ≤ 4000) : (Int32.ofNat L - (6 : Int32) < nI x) = (L < x + 6) := by
  show (nI L - 6 < nI x) = _
  rw [l_6]
  by_cases c : 6 ≤ L
  · rw [nI_sub c, nI_lti (by omega) (by omega)]
    exact propext (by omega)
  · have e : nI L - nI 6 = mI (6 - L) := by
      rcases (show L = 0 ∨ L = 1 ∨ L = 2 ∨ L = 3 ∨ L = 4 ∨ L = 5 by omega) with rfl | rfl | rfl | rfl | rfl | rfl <;> decide
    rw [e]
    exact propext ⟨fun _ => by omega, fun _ => mI_lt (by omega) (by omega) (by omega)⟩
theorem law_pure {L : Nat} {xs : Nat → Int32} (hL : L ≤ 3072) {σ : sg} (h0 : Inv σ) : L_L_law_18 L xs gN (0, σ) = some 1 := by
  unfold L_L_law_18
  refine Exists.elim (loop_c2 (F := B_L_law_18 L xs) 600 (fun k x τ => x = nI (6 * k) ∧ Inv τ) (fun r => r = 1) (fun k x τ hk hR => ?_) (fu := gN) (gN_gt (by decide)) (a := 0) (b := σ) ⟨rfl, h0⟩) (fun r hr => by obtain ⟨h1, rfl⟩ := hr; exact h1)
  obtain ⟨rfl, hI⟩ := hR
  unfold B_L_law_18
  by_cases e : L < 6 * k + 6
  · rw [if_pos (show Int32.ofNat L - (6 : Int32) < nI (6 * k) by rw [law_end hL (by omega)]; exact e)]
    exact Or.inr ⟨1, rfl, rfl⟩
  rw [if_neg (show ¬ Int32.ofNat L - (6 : Int32) < nI (6 * k) by rw [law_end hL (by omega)]; exact e)]
  have hx : ∀ j, j < 6 → lx xs L (nI (6 * k + j)) = some (xs (6 * k + j)) := fun j hj => by
    unfold lx
    rw [ix_nI (show 6 * k + j < L by omega) (by omega)]
    rfl
  have x0 : lx xs L (nI (6 * k)) = some (xs (6 * k)) := hx 0 (by decide)
  have x1 : lx xs L (nI (6 * k) + (1 : Int32)) = some (xs (6 * k + 1)) := by rw [l_1, nI_add]; exact hx 1 (by decide)
  have x2 : lx xs L (nI (6 * k) + (2 : Int32)) = some (xs (6 * k + 2)) := by rw [l_2, nI_add]; exact hx 2 (by decide)
  have x3 : lx xs L (nI (6 * k) + (3 : Int32)) = some (xs (6 * k + 3)) := by rw [l_3, nI_add]; exact hx 3 (by decide)
  have x4 : lx xs L (nI (6 * k) + (4 : Int32)) = some (xs (6 * k + 4)) := by rw [l_4, nI_add]; exact hx 4 (by decide)
  have x5 : lx xs L (nI (6 * k) + (5 : Int32)) = some (xs (6 * k + 5)) := by rw [l_5, nI_add]; exact hx 5 (by decide)
  have nx : ∀ s : sg, J_L_law_984 L xs (nI (6 * k)) s = some (.inl (nI (6 * (k + 1)), s)) := fun s => by
    unfold J_L_law_984
    rw [l_6, nI_add]
    rfl
  have hk6 : k < 600 := by omega
  simp only [x0, x1, x2, x3, x4, x5, Option.bind_some]
  refine Or.inl ?_
  by_cases c0 : xs (6 * k) &&& (31 : Int32) = (0 : Int32)
  · rw [if_pos c0]
    obtain ⟨w, s1, s2, h1, h2, h3⟩ := P_add (xs (6 * k + 1)) (xs (6 * k + 2)) (xs (6 * k + 3)) (xs (6 * k + 4)) τ hI
    exact ⟨_, s2, Eq.trans (ca2 (K := J_L_law_984 L xs (nI (6 * k))) (f2 := (fun s => f_X9_add s (xs (6 * k + 1)) (xs (6 * k + 2)) (xs (6 * k + 3)) (xs (6 * k + 4)))) h1 h2) (nx s2), hk6, rfl, h3⟩
  rw [if_neg c0]
  by_cases c1 : xs (6 * k) &&& (31 : Int32) = (1 : Int32)
  · rw [if_pos c1]
    obtain ⟨w, s1, s2, h1, h2, h3⟩ := P_set (xs (6 * k + 1)) (xs (6 * k + 2)) (xs (6 * k + 3)) (xs (6 * k + 4)) (xs (6 * k + 5)) τ hI
    exact ⟨_, s2, Eq.trans (ca2 (K := J_L_law_984 L xs (nI (6 * k))) (f2 := (fun s => f_X9_set s (xs (6 * k + 1)) (xs (6 * k + 2)) (xs (6 * k + 3)) (xs (6 * k + 4)) (xs (6 * k + 5)))) h1 h2) (nx s2), hk6, rfl, h3⟩
  rw [if_neg c1]
  by_cases c2 : xs (6 * k) &&& (31 : Int32) = (2 : Int32)
  · rw [if_pos c2]
    obtain ⟨w, s1, s2, h1, h2, h3⟩ := P_rml τ hI
    exact ⟨_, s2, Eq.trans (ca2 (K := J_L_law_984 L xs (nI (6 * k))) (f2 := f_X9_removeLast) h1 h2) (nx s2), hk6, rfl, h3⟩
  rw [if_neg c2]
  by_cases c3 : xs (6 * k) &&& (31 : Int32) = (3 : Int32)
  · rw [if_pos c3]
    obtain ⟨w, h1, h2⟩ := P_size τ hI
    exact ⟨_, τ, Eq.trans (ca0 (K := J_L_law_984 L xs (nI (6 * k))) (σ := τ) h1 h2) (nx τ), hk6, rfl, hI⟩
  rw [if_neg c3]
  by_cases c4 : xs (6 * k) &&& (31 : Int32) = (4 : Int32)
  · rw [if_pos c4]
    obtain ⟨w, h1, h2⟩ := P_part (xs (6 * k + 1)) (xs (6 * k + 2)) τ hI
    exact ⟨_, τ, Eq.trans (ca0 (K := J_L_law_984 L xs (nI (6 * k))) (σ := τ) h1 h2) (nx τ), hk6, rfl, hI⟩
  rw [if_neg c4]
  by_cases c5 : xs (6 * k) &&& (31 : Int32) = (5 : Int32)
  · rw [if_pos c5]
    obtain ⟨w, s1, s2, h1, h2, h3⟩ := P_undo τ hI
    exact ⟨_, s2, Eq.trans (ca2 (K := J_L_law_984 L xs (nI (6 * k))) (f2 := f_X9_undo) h1 h2) (nx s2), hk6, rfl, h3⟩
  rw [if_neg c5]
  by_cases c6 : xs (6 * k) &&& (31 : Int32) = (6 : Int32)
  · rw [if_pos c6]
    obtain ⟨w, s2, h1, h2, h3⟩ := P_bc τ hI
    exact ⟨_, s2, Eq.trans (ca1 (K := J_L_law_984 L xs (nI (6 * k))) h1 h2) (nx s2), hk6, rfl, h3⟩
  rw [if_neg c6]
  by_cases c7 : xs (6 * k) &&& (31 : Int32) = (7 : Int32)
  · rw [if_pos c7]
    obtain ⟨w, s2, h1, h2, h3⟩ := P_bo (xs (6 * k + 1)) τ hI
    exact ⟨_, s2, Eq.trans (ca1 (K := J_L_law_984 L xs (nI (6 * k))) h1 h2) (nx s2), hk6, rfl, h3⟩
  rw [if_neg c7]
  by_cases c8 : xs (6 * k) &&& (31 : Int32) = (8 : Int32)
  · rw [if_pos c8]
    obtain ⟨w, s2, h1, h2, h3⟩ := P_bb (xs (6 * k + 1)) τ hI
    exact ⟨_, s2, Eq.trans (ca1 (K := J_L_law_984 L xs (nI (6 * k))) h1 h2) (nx s2), hk6, rfl, h3⟩
  rw [if_neg c8]
  by_cases c9 : xs (6 * k) &&& (31 : Int32) = (9 : Int32)
  · rw [if_pos c9]
    obtain ⟨w, s2, h1, h2, h3⟩ := P_di (xs (6 * k + 1)) (xs (6 * k + 2)) τ hI
    exact ⟨_, s2, Eq.trans (ca1 (K := J_L_law_984 L xs (nI (6 * k))) h1 h2) (nx s2), hk6, rfl, h3⟩
  rw [if_neg c9]
  by_cases c10 : xs (6 * k) &&& (31 : Int32) = (10 : Int32)
  · rw [if_pos c10]
    obtain ⟨w, s1, s2, h1, h2, h3⟩ := P_at (xs (6 * k + 1)) (xs (6 * k + 2)) (xs (6 * k + 3)) (xs (6 * k + 4)) τ hI
    exact ⟨_, s2, Eq.trans (ca2 (K := J_L_law_984 L xs (nI (6 * k))) (f2 := (fun s => f_X9_addTemplate s (xs (6 * k + 1)) (xs (6 * k + 2)) (xs (6 * k + 3)) (xs (6 * k + 4)))) h1 h2) (nx s2), hk6, rfl, h3⟩
  rw [if_neg c10]
  by_cases c11 : xs (6 * k) &&& (31 : Int32) = (11 : Int32)
  · rw [if_pos c11]
    obtain ⟨w, s1, s2, h1, h2, h3⟩ := P_cl τ hI
    exact ⟨_, s2, Eq.trans (ca2 (K := J_L_law_984 L xs (nI (6 * k))) (f2 := f_X9_clearTemplates) h1 h2) (nx s2), hk6, rfl, h3⟩
  rw [if_neg c11]
  by_cases c12 : xs (6 * k) &&& (31 : Int32) = (12 : Int32)
  · rw [if_pos c12]
    obtain ⟨w, h1, h2⟩ := P_tc τ hI
    exact ⟨_, τ, Eq.trans (ca0 (K := J_L_law_984 L xs (nI (6 * k))) (σ := τ) h1 h2) (nx τ), hk6, rfl, hI⟩
  rw [if_neg c12]
  by_cases c13 : xs (6 * k) &&& (31 : Int32) = (13 : Int32)
  · rw [if_pos c13]
    obtain ⟨w, h1, h2⟩ := P_te (xs (6 * k + 1)) (xs (6 * k + 2)) τ hI
    exact ⟨_, τ, Eq.trans (ca0 (K := J_L_law_984 L xs (nI (6 * k))) (σ := τ) h1 h2) (nx τ), hk6, rfl, hI⟩
  rw [if_neg c13]
  by_cases c14 : xs (6 * k) &&& (31 : Int32) = (14 : Int32)
  · rw [if_pos c14]
    obtain ⟨w, s1, s2, h1, h2, h3⟩ := P_pack τ hI
    exact ⟨_, s2, Eq.trans (ca2 (K := J_L_law_984 L xs (nI (6 * k))) (f2 := f_X9_pack) h1 h2) (nx s2), hk6, rfl, h3⟩
  rw [if_neg c14]
  by_cases c15 : xs (6 * k) &&& (31 : Int32) = (15 : Int32)
  · rw [if_pos c15]
    obtain ⟨w, s1, s2, h1, h2, h3⟩ := P_un τ hI
    exact ⟨_, s2, Eq.trans (ca2 (K := J_L_law_984 L xs (nI (6 * k))) (f2 := f_X9_unpack) h1 h2) (nx s2), hk6, rfl, h3⟩
  rw [if_neg c15]
  by_cases c16 : xs (6 * k) &&& (31 : Int32) = (16 : Int32)
  · rw [if_pos c16]
    obtain ⟨w, h1, h2⟩ := P_bn τ hI
    exact ⟨_, τ, Eq.trans (ca0 (K := J_L_law_984 L xs (nI (6 * k))) (σ := τ) h1 h2) (nx τ), hk6, rfl, hI⟩
  rw [if_neg c16]
  by_cases c17 : xs (6 * k) &&& (31 : Int32) = (17 : Int32)
  · rw [if_pos c17]
    obtain ⟨w, h1, h2⟩ := P_bu (xs (6 * k + 1)) (xs (6 * k + 2)) τ hI
    exact ⟨_, τ, Eq.trans (ca0 (K := J_L_law_984 L xs (nI (6 * k))) (σ := τ) h1 h2) (nx τ), hk6, rfl, hI⟩
  rw [if_neg c17]
  by_cases c18 : xs (6 * k) &&& (31 : Int32) = (18 : Int32)
  · rw [if_pos c18]
    obtain ⟨w, h1, h2⟩ := P_pl (xs (6 * k + 1)) (xs (6 * k + 2)) τ hI
    exact ⟨_, τ, Eq.trans (ca0 (K := J_L_law_984 L xs (nI (6 * k))) (σ := τ) h1 h2) (nx τ), hk6, rfl, hI⟩
  rw [if_neg c18]
  by_cases c19 : xs (6 * k) &&& (31 : Int32) = (19 : Int32)
  · rw [if_pos c19]
    obtain ⟨w, s2, h1, h2, h3⟩ := P_cy (xs (6 * k + 1)) τ hI
    exact ⟨_, s2, Eq.trans (ca1 (K := J_L_law_984 L xs (nI (6 * k))) h1 h2) (nx s2), hk6, rfl, h3⟩
  rw [if_neg c19]
  by_cases c20 : xs (6 * k) &&& (31 : Int32) = (20 : Int32)
  · rw [if_pos c20]
    obtain ⟨w, h1, h2⟩ := P_es τ hI
    exact ⟨_, τ, Eq.trans (ca0 (K := J_L_law_984 L xs (nI (6 * k))) (σ := τ) h1 h2) (nx τ), hk6, rfl, hI⟩
  rw [if_neg c20]
  by_cases c21 : xs (6 * k) &&& (31 : Int32) = (21 : Int32)
  · rw [if_pos c21]
    obtain ⟨w, s1, s2, h1, h2, h3⟩ := P_le (xs (6 * k + 1)) (xs (6 * k + 2)) τ hI
    exact ⟨_, s2, Eq.trans (ca2 (K := J_L_law_984 L xs (nI (6 * k))) (f2 := (fun s => f_X9_least s (xs (6 * k + 1)) (xs (6 * k + 2)))) h1 h2) (nx s2), hk6, rfl, h3⟩
  rw [if_neg c21]
  by_cases c22 : xs (6 * k) &&& (31 : Int32) = (22 : Int32)
  · rw [if_pos c22]
    obtain ⟨w, s2, h1, h2, h3⟩ := P_cle τ hI
    exact ⟨_, s2, Eq.trans (ca1 (K := J_L_law_984 L xs (nI (6 * k))) h1 h2) (nx s2), hk6, rfl, h3⟩
  rw [if_neg c22]
  by_cases c23 : xs (6 * k) &&& (31 : Int32) = (23 : Int32)
  · rw [if_pos c23]
    obtain ⟨w, s2, h1, h2, h3⟩ := P_co (xs (6 * k + 1)) τ hI
    exact ⟨_, s2, Eq.trans (ca1 (K := J_L_law_984 L xs (nI (6 * k))) h1 h2) (nx s2), hk6, rfl, h3⟩
  rw [if_neg c23]
  by_cases c24 : xs (6 * k) &&& (31 : Int32) = (24 : Int32)
  · rw [if_pos c24]
    obtain ⟨w, s2, h1, h2, h3⟩ := P_ci (xs (6 * k + 1)) τ hI
    exact ⟨_, s2, Eq.trans (ca1 (K := J_L_law_984 L xs (nI (6 * k))) h1 h2) (nx s2), hk6, rfl, h3⟩
  rw [if_neg c24]
  by_cases c25 : xs (6 * k) &&& (31 : Int32) = (25 : Int32)
  · rw [if_pos c25]
    obtain ⟨w, s1, s2, h1, h2, h3⟩ := P_sr (xs (6 * k + 1)) (xs (6 * k + 2)) τ hI
    exact ⟨_, s2, Eq.trans (ca2 (K := J_L_law_984 L xs (nI (6 * k))) (f2 := (fun s => f_X9_setRegister s (xs (6 * k + 1)) (xs (6 * k + 2)))) h1 h2) (nx s2), hk6, rfl, h3⟩
  rw [if_neg c25]
  by_cases c26 : xs (6 * k) &&& (31 : Int32) = (26 : Int32)
  · rw [if_pos c26]
    obtain ⟨w, h1, h2⟩ := P_re (xs (6 * k + 1)) τ hI
    exact ⟨_, τ, Eq.trans (caL (K := J_L_law_984 L xs (nI (6 * k))) (σ := τ) h1 h2) (nx τ), hk6, rfl, hI⟩
  rw [if_neg c26]
  by_cases c27 : xs (6 * k) &&& (31 : Int32) = (27 : Int32)
  · rw [if_pos c27]
    obtain ⟨w, s1, s2, h1, h2, h3⟩ := P_sm (xs (6 * k + 1)) (xs (6 * k + 2)) τ hI
    exact ⟨_, s2, Eq.trans (ca2 (K := J_L_law_984 L xs (nI (6 * k))) (f2 := (fun s => f_X9_setMemory s (xs (6 * k + 1)) (xs (6 * k + 2)))) h1 h2) (nx s2), hk6, rfl, h3⟩
  rw [if_neg c27]
  by_cases c28 : xs (6 * k) &&& (31 : Int32) = (28 : Int32)
  · rw [if_pos c28]
    obtain ⟨w, h1, h2⟩ := P_me (xs (6 * k + 1)) τ hI
    exact ⟨_, τ, Eq.trans (caL (K := J_L_law_984 L xs (nI (6 * k))) (σ := τ) h1 h2) (nx τ), hk6, rfl, hI⟩
  rw [if_neg c28]
  by_cases c29 : xs (6 * k) &&& (31 : Int32) = (29 : Int32)
  · rw [if_pos c29]
    obtain ⟨w, s1, s2, h1, h2, h3⟩ := P_run (xs (6 * k + 1)) τ hI
    exact ⟨_, s2, Eq.trans (ca2 (K := J_L_law_984 L xs (nI (6 * k))) (f2 := (fun s => f_X9_run s (xs (6 * k + 1)))) h1 h2) (nx s2), hk6, rfl, h3⟩
  rw [if_neg c29]
  by_cases c30 : xs (6 * k) &&& (31 : Int32) = (30 : Int32)
  · rw [if_pos c30]
    obtain ⟨w, s1, s2, h1, h2, h3⟩ := P_rb (xs (6 * k + 1)) τ hI
    exact ⟨_, s2, Eq.trans (ca2 (K := J_L_law_984 L xs (nI (6 * k))) (f2 := (fun s => f_X9_runBundles s (xs (6 * k + 1)))) h1 h2) (nx s2), hk6, rfl, h3⟩
  rw [if_neg c30]
  by_cases c31 : xs (6 * k) &&& (31 : Int32) = (31 : Int32)
  · rw [if_pos c31]
    obtain ⟨w, s1, s2, h1, h2, h3⟩ := P_cm (xs (6 * k + 1)) τ hI
    exact ⟨_, s2, Eq.trans (ca2 (K := J_L_law_984 L xs (nI (6 * k))) (f2 := (fun s => f_X9_compare s (xs (6 * k + 1)))) h1 h2) (nx s2), hk6, rfl, h3⟩
  rw [if_neg c31]
  exact ⟨_, τ, nx τ, hk6, rfl, hI⟩
/-- the two fresh objects -/
def g_s0 : sg := up (fun _ _ => 0) 57 4 1
theorem inv_s0 : Inv g_s0 := by
  have z : ∀ r k, ¬ (r = 57 ∧ k = 4) → g_s0 r k = nI 0 := fun r k h => by
    unfold g_s0
    rw [up_ne _ _ h]
    rfl
  have hb0 : bgn (fun _ _ => nI 0) 0 0 = 0 := by
    have := bgn_le (P := fun _ _ => nI 0) (n := 0) 0
    omega
  have hc : cmpl (fun _ _ => nI 0) 0 := fun t ht => absurd ht (Nat.not_lt_zero t)
  have p0 : ∀ i, pop (fun _ _ => nI 0) i = 0 ∧ pd (fun _ _ => nI 0) i = 0 ∧ pa (fun _ _ => nI 0) i = 0 ∧ pb (fun _ _ => nI 0) i = 0 := fun i => ⟨nI_clamp (by decide), nI_clamp (by decide), nI_clamp (by decide), nI_clamp (by decide)⟩
  refine ⟨fun _ _ => nI 0, 0, 0, False, ⟨fun i j hi hj => z _ _ (by omega), fun i j hi hj => z _ _ (by omega), fun i hi => ?_, z _ _ (by decide), z _ _ (by decide), by decide⟩, ⟨?_, fun _ => ⟨z _ _ (by decide), fun i hi => absurd hi (Nat.not_lt_zero i), fun t ht => ?_⟩, fun q => absurd hc q⟩, ⟨0, 0, by decide, by decide, z _ _ (by decide), z _ _ (by decide), z _ _ (by decide), trivial⟩, ⟨z _ _ (by decide), z _ _ (by decide), by decide, fun t ht => absurd ht (Nat.not_lt_zero t)⟩, ⟨fun k hk => by rw [z _ _ (by omega), z _ _ (by omega)], fun k hk => by rw [z _ _ (by omega), z _ _ (by omega)]⟩, ⟨fun _ _ => nI 0, fun i hi => ⟨z _ _ (by omega), z _ _ (by omega), z _ _ (by omega)⟩, fun i j hi hj => z _ _ (by omega)⟩, ⟨by rw [tf_false]; exact z _ _ (by decide), by rw [tf_false]; exact z _ _ (by decide)⟩, False.elim⟩
  · obtain ⟨h1, h2, h3, h4⟩ := p0 i
    unfold pV
    rw [h1, h2, h3, h4]
    exact ⟨rfl, by decide, rfl, by decide, rfl, by decide, fun q => absurd rfl q⟩
  · rw [tf_t hc]
    show up (fun _ _ => 0) 57 4 1 57 4 = nI 1
    rw [up_same]
    rfl
  · have : nb (fun _ _ => nI 0) 0 0 = 0 := rfl
    have ht0 : t = 0 := by omega
    rw [ht0, hb0]
    exact z _ _ (by decide)
theorem law_1 {L : Nat} {xs : Nat → Int32} (hL : L ≤ 3072) : L_L_law_18 L xs gN (0, g_s0) = some 1 := law_pure hL inv_s0
