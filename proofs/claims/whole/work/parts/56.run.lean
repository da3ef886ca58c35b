/-! RUNNING THE PROGRAM -/
def ex1 (P : gP) (n : Nat) (a : Nat × MS) : Nat × MS := if a.1 < n then (suc P n a.2 a.1, wr a.2 (pw P a.2 a.1) (val P a.2 a.1)) else a
def exN (P : gP) (n : Nat) (a : Nat × MS) : Nat → Nat × MS
  | 0 => a
  | k + 1 => ex1 P n (exN P n a k)
/-- the step at which a run of at most m steps ends -/
def exE (P : gP) (n : Nat) (a : Nat × MS) (m k : Nat) : Prop := k ≤ m ∧ (∀ j, j < k → (exN P n a j).1 < n) ∧ (k = m ∨ ¬ (exN P n a k).1 < n)
theorem exE_u {P : gP} {n : Nat} {a : Nat × MS} {m k l : Nat} (h : exE P n a m k) (g : exE P n a m l) : k = l := by
  obtain ⟨h1, h2, h3⟩ := h
  obtain ⟨g1, g2, g3⟩ := g
  rcases Nat.lt_trichotomy k l with q | q | q
  · rcases h3 with w | w
    · omega
    · exact absurd (g2 k q) w
  · exact q
  · rcases g3 with w | w
    · omega
    · exact absurd (h2 l q) w
def atI (n : Nat) (x : Int32) (p : Nat) : Prop := (p < n → x = nI p) ∧ (¬ p < n → ¬ (0 ≤ x.toInt ∧ x.toInt < (n : Int)))
theorem pw_lt {P : gP} {s : MS} {i : Nat} (hv : pV P i) (h : ¬ 10 ≤ pop P i) : pw P s i < 24 := by
  have h1 : cel P s i < 16 := (and15 _).2
  have h2 := hv.2.2.2.1
  unfold pw pwC
  rw [if_neg h]
  by_cases c : pop P i = 9
  · rw [if_pos c]; omega
  · rw [if_neg c]; omega
section
variable {σ : sg} {P : gP} {n o : Nat} {s : MS}
theorem suc_at (hc : cmpl P n) {i : Nat} (hi : i < n) (hn : n ≤ 40) : atI n (sucI P s i) (suc P n s i) := by
  unfold sucI suc
  by_cases c12 : pop P i = 12
  · rw [if_pos c12, if_pos c12]
    exact ⟨fun h => absurd h (Nat.lt_irrefl n), fun _ q => by
      have : (mI 1).toInt = -1 := by decide
      omega⟩
  rw [if_neg c12, if_neg c12]
  by_cases cj : pop P i = 10 ∨ (pop P i = 11 ∧ s (pb P i) ≠ 0)
  · rw [if_pos cj, if_pos cj]
    have := hc i hi (cj.elim Or.inl (fun w => Or.inr w.1))
    exact ⟨fun _ => rfl, fun q => absurd this q⟩
  · rw [if_neg cj, if_neg cj]
    refine ⟨fun _ => rfl, fun q w => ?_⟩
    rw [nI_toInt (by omega)] at w
    omega
theorem suc_n {i : Nat} (h : pop P i < 10) : suc P n s i = i + 1 := by
  unfold suc
  rw [if_neg (by omega), if_neg (by omega)]
theorem x8_exec (hI : rI σ P) (hV : pVs P) (hn1 : σ 1 1 = nI n) (hn : n ≤ 40) (hc : cmpl P n) (ho : oMa o) (hm : mS σ o s) {m : Nat} (hm300 : m ≤ 300) : ∃ (σ' : sg) (k : Nat), f_X8_executeProgram σ o (nI m) = some (cif ((exN P n (0, s) k).1 < n) (mI 7) (nI k), σ') ∧ exE P n (0, s) m k ∧ mS σ' o (exN P n (0, s) k).2 ∧ ∀ r, r ≠ o + 1 → r ≠ o + 2 → σ' r = σ r := by
  have hor : oMa o → o = 145 ∨ o = 148 ∨ o = 151 := id
  have ho3 := hor ho
  unfold f_X8_executeProgram L_X8_executeProgram_5
  refine Exists.elim (loop_c3 (F := B_X8_executeProgram_5 o (nI m)) m (fun k x t τ => atI n x (exN P n (0, s) k).1 ∧ t = nI k ∧ (∀ j, j < k → (exN P n (0, s) j).1 < n) ∧ mS τ o (exN P n (0, s) k).2 ∧ ∀ r, r ≠ o + 1 → r ≠ o + 2 → τ r = σ r) (fun z => ∃ k, z.1 = cif ((exN P n (0, s) k).1 < n) (mI 7) (nI k) ∧ exE P n (0, s) m k ∧ mS z.2 o (exN P n (0, s) k).2 ∧ ∀ r, r ≠ o + 1 → r ≠ o + 2 → z.2 r = σ r) (fun k x t τ hk hR => ?_) (fu := gN) (gN_gt (by omega)) (a := 0) (b := 0) (c := σ) ⟨⟨fun _ => rfl, fun q w => by
    have : (0 : Int32).toInt = 0 := by decide
    rw [this] at w
    exact q (by show 0 < n; omega)⟩, rfl, fun j hj => absurd hj (Nat.not_lt_zero j), hm, fun _ _ _ => rfl⟩) (fun z hz => by
      obtain ⟨z1, k, z2, z3, z4, z5⟩ := hz
      exact ⟨z.2, k, by rw [z1, ← z2], z3, z4, z5⟩)
  obtain ⟨hat, rfl, hno, hmk, hfr⟩ := hR
  obtain ⟨A, hA⟩ : ∃ A, A = exN P n (0, s) k := ⟨_, rfl⟩
  have eA : exN P n (0, s) (k + 1) = ex1 P n A := by rw [hA]; rfl
  rw [← hA] at hat hmk
  have hIτ : rI τ P := rI_fr hI (fun r q1 q2 => hfr r (by omega) (by omega))
  have hn1τ : τ 1 1 = nI n := by rw [hfr 1 (by omega) (by omega)]; exact hn1
  have hhas : f_X6_has τ x = some (tf (A.1 < n)) := by
    rw [x6_has hn1τ hn, tf_if]
    refine congrArg some (tf_c ⟨fun q => ?_, fun q => ?_⟩)
    · by_cases c : A.1 < n
      · exact c
      · exact absurd q (hat.2 c)
    · rw [hat.1 q, nI_toInt (by omega)]; omega
  unfold B_X8_executeProgram_5 J_X8_executeProgram_43
  rw [hhas, Option.bind_some, if_tf]
  have fin : (cif (A.1 < n) (some ((-7 : Int32), τ)) (some (nI k, τ)) : Option (Int32 × sg)).bind (fun t => some (Sum.inr (α := Int32 × Int32 × sg) t)) = some (.inr (cif (A.1 < n) (mI 7) (nI k), τ)) := by
    by_cases c : A.1 < n
    · rw [cif_t c, cif_t c]; rfl
    · rw [cif_f c, cif_f c]; rfl
  by_cases km : k = m
  · rw [if_pos (show nI m ≤ nI k by rw [km]; exact (nI_lei (by omega) (by omega)).mpr (Nat.le_refl _))]
    exact Or.inr ⟨_, fin, k, by rw [← hA], ⟨by omega, hno, Or.inl km⟩, by rw [← hA]; exact hmk, hfr⟩
  rw [if_neg (show ¬ nI m ≤ nI k by rw [nI_lei (by omega) (by omega)]; omega), Option.bind_some, if_tf]
  by_cases c : A.1 < n
  · rw [cif_t c]
    have hv := hV A.1 (by omega)
    rw [hat.1 c, ldr_2 (by omega), Option.bind_some]
    unfold f_X4_step
    have hc15 : ceP P A.2 A.1 < 16 := by
      unfold ceP
      by_cases q : pop P A.1 = 8 ∨ pop P A.1 = 9
      · rw [if_pos q]; exact (and15 _).2
      · rw [if_neg q]; decide
    obtain ⟨τ1, w1, w2, w3⟩ := x4_take (v := val P A.2 A.1) hIτ ho hmk (by omega) hv hc15
    rw [x4_suc hIτ ho hmk (by omega) hv, Option.bind_some, x4_cel hIτ ho hmk (by omega) hv, Option.bind_some, x4_res hIτ ho hmk (by omega) hv, Option.bind_some, w1, Option.bind_some, Option.bind_some]
    have epw : pwC P A.1 (ceP P A.2 A.1) = pw P A.2 A.1 := by
      unfold pw pwC ceP
      by_cases q : 10 ≤ pop P A.1
      · rw [if_pos q, if_pos q]
      · rw [if_neg q, if_neg q]
        by_cases q9 : pop P A.1 = 9
        · rw [if_pos q9, if_pos q9, if_pos (Or.inr q9)]
        · rw [if_neg q9, if_neg q9]
    have e1 : ex1 P n A = (suc P n A.2 A.1, wr A.2 (pw P A.2 A.1) (val P A.2 A.1)) := if_pos c
    refine Or.inl ⟨_, _, _, rfl, by omega, ?_, by rw [l_1, nI_add], fun j hj => ?_, ?_, fun r q1 q2 => Eq.trans (w3 r q1 q2) (hfr r q1 q2)⟩
    · rw [eA, e1]; exact suc_at hc c hn
    · by_cases ej : j = k
      · rw [ej, ← hA]; exact c
      · exact hno j (by omega)
    · rw [eA, e1, ← epw]; exact w2
  · rw [cif_f c]
    exact Or.inr ⟨_, fin, k, by rw [← hA], ⟨by omega, hno, Or.inr (by rw [← hA]; exact c)⟩, by rw [← hA]; exact hmk, hfr⟩
theorem x9_exec (hM : rM σ P) (hV : pVs P) (hn9 : σ 157 0 = nI n) (hn : n ≤ 40) (hc : cmpl P n) (hm : mR σ s) {m : Nat} (hm300 : m ≤ 300) : ∃ (σ' : sg) (k : Nat), f_X9_execute σ (nI m) = some (tf (¬ (exN P n (0, s) k).1 < n), σ') ∧ σ' 157 29 = nI k ∧ exE P n (0, s) m k ∧ mR σ' (exN P n (0, s) k).2 ∧ (∀ r, r ≠ 157 → r ≠ 731 → σ' r = σ r) ∧ ∀ j, j ≠ 29 → σ' 157 j = σ 157 j := by
  unfold f_X9_execute L_X9_execute_7
  rw [Option.bind_some]
  refine Exists.elim (loop_c2 (F := B_X9_execute_7 (nI m)) m (fun k x τ => x = nI (exN P n (0, s) k).1 ∧ (exN P n (0, s) k).1 < 1000 ∧ τ 157 29 = nI k ∧ (∀ j, j < k → (exN P n (0, s) j).1 < n) ∧ mR τ (exN P n (0, s) k).2 ∧ (∀ r, r ≠ 157 → r ≠ 731 → τ r = σ r) ∧ ∀ j, j ≠ 29 → τ 157 j = σ 157 j) (fun z => ∃ k, z.1 = tf (¬ (exN P n (0, s) k).1 < n) ∧ z.2 157 29 = nI k ∧ exE P n (0, s) m k ∧ mR z.2 (exN P n (0, s) k).2 ∧ (∀ r, r ≠ 157 → r ≠ 731 → z.2 r = σ r) ∧ ∀ j, j ≠ 29 → z.2 157 j = σ 157 j) (fun k x τ hk hR => ?_) (fu := gN) (gN_gt (by omega)) (a := 0) (b := up σ 157 29 0) ⟨rfl, by show 0 < 1000; decide, up_same _ _ _ _, fun j hj => absurd hj (Nat.not_lt_zero j), fun k hk => by rw [up_r (by decide)]; exact hm k hk, fun r q1 q2 => up_r q1, fun j hj => up_k hj⟩) (fun z hz => by
      obtain ⟨z1, k, z2, z3⟩ := hz
      exact ⟨z.2, k, by rw [z1, ← z2], z3⟩)
  obtain ⟨rfl, hat, h29, hno, hmk, hfr, hfk⟩ := hR
  obtain ⟨A, hA⟩ : ∃ A, A = exN P n (0, s) k := ⟨_, rfl⟩
  have eA : exN P n (0, s) (k + 1) = ex1 P n A := by rw [hA]; rfl
  rw [← hA] at hat hmk ⊢
  have hMτ : rM τ P := rM_fr hM (fun r q1 q2 => hfr r (by omega) (by omega))
  have hn0 : τ 157 0 = nI n := by rw [hfk 0 (by decide)]; exact hn9
  unfold B_X9_execute_7
  have fin : (J_X9_execute_98 (nI A.1) τ).bind (fun t => some (Sum.inr (α := Int32 × sg) t)) = some (.inr (tf (¬ A.1 < n), τ)) := by
    unfold J_X9_execute_98
    rw [hn0]
    by_cases c : A.1 < n
    · rw [if_pos (show nI A.1 < nI n by rw [nI_lti (by omega) (by omega)]; exact c), tf_f (fun q => q c)]; rfl
    · rw [if_neg (show ¬ nI A.1 < nI n by rw [nI_lti (by omega) (by omega)]; exact c), tf_t c]; rfl
  rw [hn0, h29]
  by_cases c : A.1 < n
  · rw [if_neg (show ¬ nI n ≤ nI A.1 by rw [nI_lei (by omega) (by omega)]; omega)]
    by_cases km : k = m
    · rw [if_pos (show nI m ≤ nI k by rw [km]; exact (nI_lei (by omega) (by omega)).mpr (Nat.le_refl _))]
      exact Or.inr ⟨_, fin, k, by rw [← hA], h29, ⟨by omega, hno, Or.inl km⟩, by rw [← hA]; exact hmk, hfr, hfk⟩
    have hi : A.1 < 40 := by omega
    have hv := hV A.1 hi
    have e1 : ex1 P n A = (suc P n A.2 A.1, wr A.2 (pw P A.2 A.1) (val P A.2 A.1)) := if_pos c
    have hsuc : suc P n A.2 A.1 < 1000 := by
      unfold suc
      by_cases c12 : pop P A.1 = 12
      · rw [if_pos c12]; omega
      · rw [if_neg c12]
        by_cases cj : pop P A.1 = 10 ∨ (pop P A.1 = 11 ∧ A.2 (pb P A.1) ≠ 0)
        · rw [if_pos cj]
          have := hc A.1 c (cj.elim Or.inl (fun w => Or.inr w.1))
          omega
        · rw [if_neg cj]; omega
    have hno' : ∀ j, j < k + 1 → (exN P n (0, s) j).1 < n := fun j hj => by
      by_cases ej : j = k
      · rw [ej, ← hA]; exact c
      · exact hno j (by omega)
    rw [if_neg (show ¬ nI m ≤ nI k by rw [nI_lei (by omega) (by omega)]; omega), x9_plw hMτ hmk hi hv, Option.bind_some, x9_val hMτ hmk hi hv, Option.bind_some, x9_exitt hMτ hi hv, Option.bind_some, if_tf]
    refine Or.inl ?_
    unfold J_X9_execute_68 J_X9_execute_82
    by_cases c10 : 10 ≤ pop P A.1
    · have := hv.2.2.2.2.2.1
      rw [cif_t c10, if_pos c10, ldr_158 hi, Option.bind_some, l_3, ldM hMτ hi (by decide), Option.bind_some, hv.2.2.2.2.1, ld_731 (by omega), Option.bind_some, hmk _ (by omega), x9_beh hMτ hn0 hi hv, Option.bind_some, if_pos (show mI 1 < 0 by decide), h29, l_1, nI_add, Option.bind_some]
      refine ⟨_, _, rfl, by omega, by rw [eA, e1], by rw [eA, e1]; exact hsuc, up_same _ _ _ _, hno', fun j hj => ?_, fun r q1 q2 => by rw [up_r q1]; exact hfr r q1 q2, fun j hj => by rw [up_k hj]; exact hfk j hj⟩
      rw [up_r (by decide), eA, e1]
      show _ = if j = pw P A.2 A.1 then _ else A.2 j
      have : pw P A.2 A.1 = 24 := if_pos c10
      rw [this, if_neg (by omega)]
      exact hmk j hj
    · have hpw := pw_lt (s := A.2) hv c10
      rw [cif_f c10, if_neg c10, if_neg (show ¬ nI (pw P A.2 A.1) < 0 by rw [l_0, nI_lti (by omega) (by decide)]; omega), st_731 hpw, Option.bind_some, up_r (show 157 ≠ 731 by decide), h29, l_1, nI_add, nI_add, Option.bind_some]
      refine ⟨_, _, rfl, by omega, by rw [eA, e1]; show _ = nI (suc P n A.2 A.1); rw [suc_n (by omega)], by rw [eA, e1]; exact hsuc, up_same _ _ _ _, hno', fun j hj => ?_, fun r q1 q2 => by rw [up_r q1, up_r q2]; exact hfr r q1 q2, fun j hj => by rw [up_k hj, up_r (by decide)]; exact hfk j hj⟩
      rw [up_r (by decide), eA, e1]
      show _ = if j = pw P A.2 A.1 then val P A.2 A.1 else A.2 j
      by_cases ej : j = pw P A.2 A.1
      · rw [ej, up_same, if_pos rfl]
      · rw [up_k ej, if_neg ej]; exact hmk j hj
  · rw [if_pos (show nI n ≤ nI A.1 by rw [nI_lei (by omega) (by omega)]; omega)]
    exact Or.inr ⟨_, fin, k, by rw [← hA], h29, ⟨hk, hno, Or.inr (by rw [← hA]; exact c)⟩, by rw [← hA]; exact hmk, hfr, hfk⟩
def ruD (r k : Nat) : Prop := r = 146 ∨ r = 147 ∨ r = 731 ∨ (r = 157 ∧ k = 29)
theorem run_ok (hp : iProg σ P n) (hb : iBlk σ P n) (hm : iMach σ) (x : Int32) : ∃ (v : Int32) (σ1 σ2 : sg), f_X8_run σ x = some (v, σ1) ∧ f_X9_run σ1 x = some (v, σ2) ∧ iMach σ2 ∧ ∀ r k, ¬ ruD r k → σ2 r k = σ r k := by
  obtain ⟨hI, hM, hV, hn1, hn9, hn40⟩ := id hp
  obtain ⟨b1, b2, b3⟩ := hb
  unfold f_X8_run f_X9_run
  have ex : ∀ υ : sg, f_X9_isBetween υ x 0 300 = some (tf (0 ≤ x.toInt ∧ x.toInt < (301 : Nat))) := fun υ => by
    rw [x9_btwt, l_0, l_300, nI_toInt (by decide), nI_toInt (by decide)]
    exact congrArg some (tf_c (by omega))
  by_cases x0 : x.toInt < 0
  · exact ⟨-2, σ, σ, if_pos (show x < 0 by rw [l_0, ltT (by decide)]; exact x0), by rw [ex, Option.bind_some, if_tf, cif_f (by omega)], hm, fun _ _ _ => rfl⟩
  rw [if_neg (show ¬ x < 0 by rw [l_0, ltT (by decide)]; exact x0)]
  by_cases x1 : x.toInt ≤ (300 : Nat)
  · rw [if_pos (show x ≤ 300 by rw [l_300, leT (by decide)]; exact x1)]
    obtain ⟨m, hm3, rfl⟩ := nI_rg (x := x) (n := 301) ⟨by omega, by omega⟩
    refine Or.elim (Classical.em (cmpl P n)).symm (fun hc => ?_) (fun hc => ?_)
    · exact ⟨-6, σ, σ, by rw [if_pos (show σ 57 4 = 0 by rw [b1, tf_0]; exact hc)], by rw [ex, Option.bind_some, if_tf, cif_t (by omega), compl_ok hp, Option.bind_some, if_tf, cif_f hc], hm, fun _ _ _ => rfl⟩
    obtain ⟨σ1, k, e1, e2, e3, e4⟩ := x8_exec (o := 145) (s := σ 731) hI hV hn1 hn40 hc (Or.inl rfl) hm (m := m) (by omega)
    have hp1 : iProg σ1 P n := ⟨rI_fr hI (fun r q1 q2 => e4 r (by omega) (by omega)), rM_fr hM (fun r q1 q2 => e4 r (by omega) (by omega)), hV, by rw [e4 1 (by decide) (by decide)]; exact hn1, by rw [e4 157 (by decide) (by decide)]; exact hn9, hn40⟩
    obtain ⟨σ2, k', g1, g2, g3, g4, g5, g6⟩ := x9_exec (s := σ 731) hp1.2.1 hV hp1.2.2.2.2.1 hn40 hc (fun k hk => by rw [e4 731 (by decide) (by decide)]) (m := m) (by omega)
    have ek := exE_u g3 e2
    subst ek
    refine ⟨_, σ1, σ2, by rw [if_neg (show ¬ σ 57 4 = 0 by rw [b1, tf_0]; exact fun q => q hc), e1, Option.bind_some], ?_, ⟨fun j hj => ?_, fun j hj => ?_⟩, fun r j h => ?_⟩
    · rw [ex, Option.bind_some, if_tf, cif_t (by omega), compl_ok hp1, Option.bind_some, if_tf, cif_t hc, g1, Option.bind_some, if_tf]
      show cif (¬ (exN P n (0, σ 731) k').1 < n) (some (σ2 157 29, σ2)) (some ((-7 : Int32), σ2)) = some (cif ((exN P n (0, σ 731) k').1 < n) (mI 7) (nI k'), σ2)
      rw [g2]
      by_cases c : (exN P n (0, σ 731) k').1 < n
      · rw [cif_f (fun q => q c), cif_t c]; rfl
      · rw [cif_t c, cif_f c]
    · rw [g5 146 (by decide) (by decide), g4 j (by omega)]; exact e3.1 j hj
    · rw [g5 147 (by decide) (by decide), g4 (8 + j) (by omega)]; exact e3.2 j hj
    · unfold ruD at h
      by_cases er : r = 157
      · subst er
        rw [g6 j (by omega), e4 157 (by decide) (by decide)]
      · rw [g5 r er (by omega), e4 r (by omega) (by omega)]
  · exact ⟨-2, σ, σ, if_neg (show ¬ x ≤ 300 by rw [l_300, leT (by decide)]; exact x1), by rw [ex, Option.bind_some, if_tf, cif_f (by omega)], hm, fun _ _ _ => rfl⟩
end
