/-! BLOCKS of the reference -/
theorem tf_true : tf True = nI 1 := tf_t trivial
theorem tf_false : tf False = nI 0 := tf_f id
section
variable {σ : sg} {P : gP} {n : Nat}
theorem x9_compl (hM : rM σ P) (hn : σ 157 0 = nI n) (hn40 : n ≤ 40) (hV : pVs P) : f_X9_isComplete σ = some (tf (cmpl P n)) := by
  unfold f_X9_isComplete L_X9_isComplete_4
  obtain ⟨b, h1, h2⟩ := loop_c2 (F := B_X9_isComplete_4 σ) n (fun k u w => w = nI k ∧ u = tf (∀ t, t < k → hasTP P t → pa P t < n)) (fun b => b = tf (cmpl P n)) (fun k u w hk hI2 => by
    obtain ⟨rfl, rfl⟩ := hI2
    unfold B_X9_isComplete_4 J_X9_isComplete_36 J_X9_isComplete_41
    rw [hn]
    by_cases hkn : n ≤ k
    · have e : k = n := by omega
      subst e
      refine Or.inr ⟨tf (cmpl P k), ?_, rfl⟩
      rw [if_pos (by rw [nI_lei (by omega) (by omega)]; exact hkn), nz_tf]
      rfl
    · rw [if_neg (by rw [nI_lei (by omega) (by omega)]; exact hkn), x9_hasTt hM (by omega) (hV k (by omega)), Option.bind_some, if_tf]
      have next : ∀ c : Prop, (c ↔ (hasTP P k → pa P k < n)) → tf (∀ t, t < k → hasTP P t → pa P t < n) &&& tf c = tf (∀ t, t < k + 1 → hasTP P t → pa P t < n) := fun c hc => by
        rw [tf_and]
        refine tf_c ⟨fun q t h3 h4 => ?_, fun q => ⟨fun t h3 h4 => q t (by omega) h4, hc.mpr (fun h4 => q k (by omega) h4)⟩⟩
        rcases Nat.lt_or_ge t k with h5 | h5
        · exact q.1 t h5 h4
        · have e : t = k := by omega
          subst e; exact hc.mp q.2 h4
      by_cases ht : hasTP P k
      · obtain ⟨e1, e2⟩ := tgt_toInt (hV k (by omega)) ht
        rw [cif_t ht, ldr_158 (by omega), Option.bind_some, l_2, ldM hM (by omega) (by decide), Option.bind_some, e1]
        by_cases hp : pa P k < n
        · rw [if_neg (by rw [nI_lei (by omega) (by omega)]; omega)]
          refine Or.inl ⟨_, _, rfl, by omega, by rw [l_1, nI_add], ?_⟩
          rw [l_1, ← tf_true]
          exact next True ⟨fun _ _ => hp, fun _ => trivial⟩
        · rw [if_pos (by rw [nI_lei (by omega) (by omega)]; omega)]
          refine Or.inl ⟨_, _, rfl, by omega, by rw [l_1, nI_add], ?_⟩
          rw [l_0, ← tf_false]
          exact next False ⟨False.elim, fun q => hp (q ht)⟩
      · rw [cif_f ht]
        refine Or.inl ⟨_, _, rfl, by omega, by rw [l_1, nI_add], ?_⟩
        rw [l_1, ← tf_true]
        exact next True ⟨fun _ q => absurd q ht, fun _ => trivial⟩) (fu := gN) (gN_gt (by omega)) (a := (1 : Int32)) (b := (0 : Int32)) ⟨rfl, by rw [l_1]; exact (tf_t (fun t ht => absurd ht (Nat.not_lt_zero t))).symm⟩
  rw [h1, h2]
theorem x9_beg2 (hM : rM σ P) (hn : σ 157 0 = nI n) (hn40 : n ≤ 40) (hV : pVs P) {m : Nat} (hm : m < 40) {c : Prop} : L_X9_beginsBlock_22 σ (nI m) gN (tf c, 0) = some (tf (c ∨ ∃ t, t < n ∧ hasTP P t ∧ pa P t = m)) := by
  unfold L_X9_beginsBlock_22
  obtain ⟨b, h1, h2⟩ := loop_c2 (F := B_X9_beginsBlock_22 σ (nI m)) n (fun k u w => w = nI k ∧ u = tf (c ∨ ∃ t, t < k ∧ hasTP P t ∧ pa P t = m)) (fun b => b = tf (c ∨ ∃ t, t < n ∧ hasTP P t ∧ pa P t = m)) (fun k u w hk hI2 => by
    obtain ⟨rfl, rfl⟩ := hI2
    unfold B_X9_beginsBlock_22 J_X9_beginsBlock_55 J_X9_beginsBlock_56
    rw [hn]
    by_cases hkn : n ≤ k
    · have e : k = n := by omega
      subst e
      refine Or.inr ⟨_, ?_, rfl⟩
      rw [if_pos (by rw [nI_lei (by omega) (by omega)]; exact hkn), nz_tf]
    · rw [if_neg (by rw [nI_lei (by omega) (by omega)]; exact hkn), x9_hasTt hM (by omega) (hV k (by omega)), Option.bind_some, if_tf]
      have next : ∀ d : Prop, (d ↔ (hasTP P k ∧ pa P k = m)) → tf (c ∨ ∃ t, t < k ∧ hasTP P t ∧ pa P t = m) ||| tf d = tf (c ∨ ∃ t, t < k + 1 ∧ hasTP P t ∧ pa P t = m) := fun d hd => by
        rw [tf_or]
        refine tf_c ⟨fun q => ?_, fun q => ?_⟩
        · rcases q with (q | ⟨t, q1, q2⟩) | q
          · exact Or.inl q
          · exact Or.inr ⟨t, by omega, q2⟩
          · exact Or.inr ⟨k, by omega, hd.mp q⟩
        · rcases q with q | ⟨t, q1, q2⟩
          · exact Or.inl (Or.inl q)
          · rcases Nat.lt_or_ge t k with h5 | h5
            · exact Or.inl (Or.inr ⟨t, h5, q2⟩)
            · have e : t = k := by omega
              subst e; exact Or.inr (hd.mpr q2)
      by_cases ht : hasTP P k
      · obtain ⟨e1, e2⟩ := tgt_toInt (hV k (by omega)) ht
        rw [cif_t ht, ldr_158 (by omega), Option.bind_some, l_2, ldM hM (by omega) (by decide), Option.bind_some, e1]
        by_cases hp : pa P k = m
        · rw [if_pos (by rw [hp])]
          refine Or.inl ⟨_, _, rfl, by omega, by rw [l_1, nI_add], ?_⟩
          rw [l_1, ← tf_true]
          exact next True ⟨fun _ => ⟨ht, hp⟩, fun _ => trivial⟩
        · rw [if_neg (by rw [nI_inj (by omega) (by omega)]; exact hp)]
          refine Or.inl ⟨_, _, rfl, by omega, by rw [l_1, nI_add], ?_⟩
          rw [l_0, ← tf_false]
          exact next False ⟨False.elim, fun q => hp q.2⟩
      · rw [cif_f ht]
        refine Or.inl ⟨_, _, rfl, by omega, by rw [l_1, nI_add], ?_⟩
        rw [l_0, ← tf_false]
        exact next False ⟨False.elim, fun q => ht q.1⟩) (fu := gN) (gN_gt (by omega)) (a := tf c) (b := (0 : Int32)) ⟨rfl, tf_c ⟨Or.inl, fun q => q.elim id (fun ⟨t, q1, _⟩ => absurd q1 (Nat.not_lt_zero t))⟩⟩
  rw [h1, h2]
theorem x9_beg (hM : rM σ P) (hn : σ 157 0 = nI n) (hn40 : n ≤ 40) (hV : pVs P) {m : Nat} (hm : m < 40) : f_X9_beginsBlock σ (nI m) = some (tf (begP P n m)) := by
  have e := fun c => x9_beg2 (c := c) hM hn hn40 hV hm
  unfold f_X9_beginsBlock J_X9_beginsBlock_14 J_X9_beginsBlock_19
  by_cases h0 : m = 0
  · subst h0
    rw [if_pos (show nI 0 = 0 from rfl), l_1, ← tf_true, e True]
    exact congrArg some (tf_c ⟨fun _ => Or.inl rfl, fun _ => Or.inl trivial⟩)
  · rw [if_neg (show ¬ nI m = 0 by rw [l_0, nI_inj (by omega) (by omega)]; exact h0), l_1, nI_sub (by omega), x9_exitt hM (by omega) (hV _ (by omega)), Option.bind_some, if_tf, ← tf_true, e True]
    have e0 : L_X9_beginsBlock_22 σ (nI m) gN (0, 0) = some (tf (False ∨ ∃ t, t < n ∧ hasTP P t ∧ pa P t = m)) := by
      have e1 := e False
      rw [tf_false] at e1
      exact e1
    rw [e0]
    by_cases hx : 10 ≤ pop P (m - 1)
    · rw [cif_t hx]
      exact congrArg some (tf_c ⟨fun _ => Or.inr (Or.inl hx), fun _ => Or.inl trivial⟩)
    · rw [cif_f hx]
      exact congrArg some (tf_c ⟨fun q => q.elim False.elim (fun a => Or.inr (Or.inr a)), fun q => q.elim (fun a => absurd a h0) (fun a => a.elim (fun b => absurd b hx) Or.inr)⟩)
theorem x9_find (hM : rM σ P) (hn : σ 157 0 = nI n) (hn40 : n ≤ 40) (hV : pVs P) : ∃ σ', f_X9_findBlocks σ = some σ' ∧ (∀ r, r ≠ 157 → r ≠ 611 → r ≠ 612 → σ' r = σ r) ∧ (∀ k, k ≠ 7 → σ' 157 k = σ 157 k) ∧ BKM σ' P n := by
  unfold f_X9_findBlocks L_X9_findBlocks_7
  rw [Option.bind_some, l_0]
  refine loop_k2 (F := B_X9_findBlocks_7) n (fun k τ => (∀ r, r ≠ 157 → r ≠ 611 → r ≠ 612 → τ r = σ r) ∧ (∀ k, k ≠ 7 → τ 157 k = σ 157 k) ∧ τ 157 7 = nI (nb P n k) ∧ (∀ i, i < k → τ 611 i = nI (nb P n (i + 1) - 1)) ∧ ∀ t, t < nb P n k → τ 612 t = nI ((begs P n k).getD t n)) (fun b => (∀ r, r ≠ 157 → r ≠ 611 → r ≠ 612 → b r = σ r) ∧ (∀ k, k ≠ 7 → b 157 k = σ 157 k) ∧ BKM b P n) (fun k τ hk hI2 => ?_) (fu := gN) (gN_gt (by omega)) ⟨fun r q _ _ => up_r q, fun k q => up_k q, up_same _ _ _ _, fun j hj => absurd hj (Nat.not_lt_zero j), fun j hj => absurd hj (Nat.not_lt_zero j)⟩
  obtain ⟨h2, h4, h5, h6, h7⟩ := hI2
  have hle := nb_le P n k
  have hM' : rM τ P := rM_fr hM (fun r x y => h2 r (by omega) (by omega) (by omega))
  have hn' : τ 157 0 = nI n := by rw [h4 0 (by decide)]; exact hn
  unfold B_X9_findBlocks_7 J_X9_findBlocks_43
  rw [hn']
  by_cases hkn : n ≤ k
  · have : k = n := by omega
    subst this
    refine Or.inr ⟨up τ 612 (nb P k k) (nI k), ?_, fun r x y z => by rw [up_r z]; exact h2 r x y z, fun j hj => by rw [up_r (by decide)]; exact h4 j hj, ?_, fun i hi => ?_, fun t ht => ?_⟩
    · rw [if_pos (by rw [nI_lei (by omega) (by omega)]; exact hkn), h5, st_612 (by omega), Option.bind_some]
    · rw [up_r (by decide)]; exact h5
    · rw [up_r (by decide)]; exact h6 i hi
    · unfold bgn
      by_cases e : t = nb P k k
      · subst e
        rw [up_same, getD_out (show (begs P k k).length ≤ nb P k k from Nat.le_refl _)]
      · rw [up_k e]
        exact h7 t (by omega)
  · rw [if_neg (by rw [nI_lei (by omega) (by omega)]; exact hkn), x9_beg hM' hn' hn40 hV (by omega), Option.bind_some, if_tf]
    by_cases hb : begP P n k
    · rw [cif_t hb, h5, st_612 (by omega), Option.bind_some, Option.bind_some]
      have e1 : up τ 612 (nb P n k) (nI k) 157 7 = nI (nb P n k) := by rw [up_r (by decide)]; exact h5
      rw [e1, l_1, nI_add, up_same, nI_sub (by omega), st_611 (by omega), Option.bind_some, nI_add]
      refine Or.inl ⟨_, rfl, by omega, fun r x y z => ?_, fun j hj => ?_, ?_, fun i hi => ?_, fun t ht => ?_⟩
      · rw [up_r y, up_r x, up_r z]; exact h2 r x y z
      · rw [up_r (by decide), up_k hj, up_r (by decide)]; exact h4 j hj
      · rw [up_r (by decide), up_same, nb_t hb]
      · by_cases e : i = k
        · subst e
          rw [up_same, nb_t hb]
        · rw [up_k e, up_r (by decide), up_r (by decide)]; exact h6 i (by omega)
      · rw [up_r (by decide), up_r (by decide), begs_t hb]
        rw [nb_t hb] at ht
        by_cases e : t = nb P n k
        · subst e
          rw [up_same]
          unfold nb
          rw [getD_last]
        · rw [up_k e, getD_left (show t < nb P n k by omega)]
          exact h7 t (by omega)
    · rw [cif_f hb, h5, l_1]
      have hk0 : 0 < k := by
        rcases Nat.eq_zero_or_pos k with e | e
        · exact absurd (Or.inl e) hb
        · exact e
      have h1 : 1 ≤ nb P n k := by
        obtain ⟨k', rfl⟩ : ∃ k', k = k' + 1 := ⟨k - 1, by omega⟩
        exact nb_one P n k'
      rw [nI_sub h1, st_611 (by omega), Option.bind_some, nI_add]
      refine Or.inl ⟨_, rfl, by omega, fun r x y z => ?_, fun j hj => ?_, ?_, fun i hi => ?_, fun t ht => ?_⟩
      · rw [up_r y]; exact h2 r x y z
      · rw [up_r (by decide)]; exact h4 j hj
      · rw [up_r (by decide), nb_f hb]; exact h5
      · by_cases e : i = k
        · subst e
          rw [up_same, nb_f hb]
        · rw [up_k e]; exact h6 i (by omega)
      · rw [up_r (by decide), begs_f hb]
        rw [nb_f hb] at ht
        exact h7 t ht
end
