/-! PACKING: the class -/
/-- the class after t blocks -/
def pI (τ : sg) (s : PK) (t : Nat) : Prop := buI τ s.1 s.2.2.1 s.2.2.2.1 s.2.2.2.2.1 ∧ plI τ s.2.1 ∧ ∀ u, u < t → τ 142 u = nI (s.2.2.2.2.2 u)
section
variable {σ : sg} {P : gP} {n : Nat} {T : Nat → Nat → Nat} {M : Nat → Nat} {tc : Nat}
theorem pk_buV {PL : gP} (hn : n ≤ 40) (h : pkOK P n T M tc PL (nb P n n)) : buV (pkN P n T M tc PL (nb P n n)).1 (pkN P n T M tc PL (nb P n n)).2.2.2.1 (pkN P n T M tc PL (nb P n n)).2.2.2.2.1 := by
  obtain ⟨f1, f2, f3, f4, f5, f6, f7⟩ := pkF_N hn (nb P n n) (Nat.le_refl _) h
  have := nb_le P n n
  refine ⟨f1, fun i hi => ?_, ?_⟩
  · obtain ⟨⟨u, u1, u2⟩, w⟩ := f6 i hi
    exact ⟨⟨u, by omega, u2⟩, w⟩
  · rw [f5]
    exact Nat.le_trans (bgn_le _) hn
theorem pkN_le {PL : gP} : ∀ t, (pkN P n T M tc PL t).1 ≤ 60 := by
  intro t
  induction t with
  | zero => exact Nat.zero_le _
  | succ t ih => exact kB_le ih
/-- what the class's packing leaves -/
def pkRI (P : gP) (n : Nat) (T : Nat → Nat → Nat) (M : Nat → Nat) (tc : Nat) (PL : gP) (v : Int32) (τ : sg) : Prop := (pkOK P n T M tc PL (nb P n n) ∧ v = nI (pkN P n T M tc PL (nb P n n)).1 ∧ τ 75 12 = nI 1 ∧ pI τ (pkN P n T M tc PL (nb P n n)) (nb P n n) ∧ cI τ (cdN (pkN P n T M tc PL (nb P n n)).2.2.1 (pkN P n T M tc PL (nb P n n)).2.2.2.1 (pkN P n T M tc PL (nb P n n)).2.2.2.2.1 (pkN P n T M tc PL (nb P n n)).1) ∧ ∀ i, i < (pkN P n T M tc PL (nb P n n)).1 → τ 143 (ixs ((pkN P n T M tc PL (nb P n n)).2.2.2.1 i)) = nI ((cdN (pkN P n T M tc PL (nb P n n)).2.2.1 (pkN P n T M tc PL (nb P n n)).2.2.2.1 (pkN P n T M tc PL (nb P n n)).2.2.2.2.1 (pkN P n T M tc PL (nb P n n)).1).2.2 (ixs ((pkN P n T M tc PL (nb P n n)).2.2.2.1 i)))) ∨ (∃ t, t < nb P n n ∧ pkOK P n T M tc PL t ∧ ¬ okB P n T M tc t (pkN P n T M tc PL t) ∧ v = mI 8 ∧ τ 75 12 = nI 0 ∧ plI τ (pkN P n T M tc PL (t + 1)).2.1)
theorem x8_pack {PL : gP} (hI : rI σ P) (hV : pVs P) (hn : n ≤ 40) (hc : cmpl P n) (h57 : σ 57 4 = tf (cmpl P n)) (hB : BKI σ P n) (htc : σ 61 2 = nI tc) (h8 : tc ≤ 8) (ht : ∀ t, t < tc → tpI σ t (T t) (M t)) (hPL : plI σ PL) : ∃ (v : Int32) (σ' : sg), f_X8_pack σ = some (v, σ') ∧ pkRI P n T M tc PL v σ' ∧ ∀ r, ¬ (72 ≤ r ∧ r ≤ 144) → σ' r = σ r := by
  obtain ⟨b1, b2, b3⟩ := hB
  have hnb := nb_le P n n
  unfold f_X8_pack L_X8_pack_22 f_X5_clear
  rw [if_neg (show ¬ σ 57 4 = 0 by rw [h57, tf_0]; exact fun q => q hc), Option.bind_some, Option.bind_some, Option.bind_some, l_0]
  refine Exists.elim (loop_k2 (F := B_X8_pack_22) (nb P n n) (fun t τ => pkOK P n T M tc PL t ∧ pI τ (pkN P n T M tc PL t) t ∧ τ 75 12 = nI 0 ∧ ∀ r, ¬ (72 ≤ r ∧ r ≤ 144) → τ r = σ r) (fun z => pkRI P n T M tc PL z.1 z.2 ∧ ∀ r, ¬ (72 ≤ r ∧ r ≤ 144) → z.2 r = σ r) (fun t τ hk hR => ?_) (fu := gN) (gN_gt (by omega)) (b := up (up σ 75 12 (nI 0)) 75 11 (nI 0)) ⟨fun u hu => absurd hu (Nat.not_lt_zero u), ⟨⟨up_same _ _ _ _, fun i hi => absurd hi (Nat.not_lt_zero i)⟩, fun i hi => by rw [up_r (by decide), up_r (by decide), up_r (by decide), up_r (by decide), up_r (by decide), up_r (by decide)]; exact hPL i hi, fun u hu => absurd hu (Nat.not_lt_zero u)⟩, by rw [up_k (by decide), up_same], fun r hr => by rw [up_r (by omega), up_r (by omega)]⟩) (fun z hz => ⟨z.1, z.2, hz.1, hz.2⟩)
  obtain ⟨ok, hp, h12, hfr⟩ := hR
  obtain ⟨s, hs⟩ : ∃ s, s = pkN P n T M tc PL t := ⟨_, rfl⟩
  have es : pkN P n T M tc PL (t + 1) = pk1 P n T M tc t s := by rw [hs]; rfl
  have s60 : s.1 ≤ 60 := by rw [hs]; exact pkN_le t
  unfold B_X8_pack_22
  have r3 : τ 57 3 = nI (nb P n n) := by rw [hfr 57 (by omega)]; exact b1
  by_cases te : t = nb P n n
  · rw [if_pos (show τ 57 3 ≤ nI t by rw [r3, nI_lei (by omega) (by omega)]; omega)]
    rw [te] at ok hp
    obtain ⟨τ1, c1, c2, c3, c4, c5⟩ := x5_code hp.1 (pk_buV hn ok)
    obtain ⟨τ2, hτ2⟩ : ∃ τ2, τ2 = up τ1 75 12 1 := ⟨_, rfl⟩
    have w : ∀ r, r ≠ 75 → τ2 r = τ1 r := fun r hr => by rw [hτ2, up_r hr]
    have w75 : ∀ k, k ≠ 12 → τ2 75 k = τ1 75 k := fun k hk => by rw [hτ2, up_k hk]
    have w12 : τ2 75 12 = nI 1 := by rw [hτ2, up_same]; rfl
    rw [c1, Option.bind_some, Option.bind_some, ← hτ2]
    refine Or.inr ⟨(τ2 75 11, τ2), rfl, ?_, fun r hr => ?_⟩
    · show pkRI P n T M tc PL (τ2 75 11) τ2
      refine Or.inl ⟨ok, ?_, w12, ⟨⟨?_, fun i hi => ?_⟩, fun i hi => ?_, fun u hu => ?_⟩, ⟨?_, fun k hk => ?_⟩, fun i hi => ?_⟩
      · rw [w75 11 (by decide), c5 11 (by decide)]; exact hp.1.1
      · rw [w75 11 (by decide), c5 11 (by decide)]; exact hp.1.1
      · have := pkN_le (P := P) (n := n) (T := T) (M := M) (tc := tc) (PL := PL) (nb P n n)
        rw [w 137 (by decide), w 138 (by decide), w (77 + i) (by omega), c4 137 (by decide) (by decide) (by decide), c4 138 (by decide) (by decide) (by decide), c4 (77 + i) (by omega) (by omega) (by omega)]
        exact hp.1.2 i hi
      · rw [w 139 (by decide), w 140 (by decide), w 141 (by decide), c4 139 (by decide) (by decide) (by decide), c4 140 (by decide) (by decide) (by decide), c4 141 (by decide) (by decide) (by decide)]
        exact hp.2.1 i hi
      · rw [w 142 (by decide), c4 142 (by decide) (by decide) (by decide)]
        exact hp.2.2 u hu
      · rw [w75 10 (by decide)]; exact c2.1
      · rw [w 144 (by decide)]; exact c2.2 k hk
      · rw [w 143 (by decide)]; exact c3 i hi
    · show τ2 r = _
      rw [w r (by omega), c4 r (by omega) (by omega) (by omega)]; exact hfr r hr
  have htn : t < nb P n n := by omega
  have he : bgn P n (t + 1) ≤ 40 := Nat.le_trans (bgn_le _) hn
  have hlt := bgn_lt (P := P) htn
  obtain ⟨τ1, hτ1⟩ : ∃ τ1, τ1 = up (up τ 72 4 (nI (bgn P n t))) 72 5 (nI (bgn P n (t + 1))) := ⟨_, rfl⟩
  have u : ∀ r, r ≠ 72 → τ1 r = τ r := fun r hr => by rw [hτ1, up_r hr, up_r hr]
  unfold f_X2_enter
  rw [if_neg (show ¬ τ 57 3 ≤ nI t by rw [r3, nI_lei (by omega) (by omega)]; omega), ld_58 (by omega), Option.bind_some, l_1, nI_add, ld_58 (by omega), Option.bind_some, hfr 58 (by omega), b3 t (by omega), b3 (t + 1) (by omega), Option.bind_some, Option.bind_some, Option.bind_some, ← hτ1]
  have t61 : τ1 61 2 = nI tc := by rw [u 61 (by decide), hfr 61 (by omega)]; exact htc
  have hfr1 : ∀ r, ¬ (72 ≤ r ∧ r ≤ 144) → τ1 r = σ r := fun r hr => by rw [u r (by omega)]; exact hfr r hr
  rw [t61]
  rw [← hs] at hp
  by_cases tc0 : tc = 0
  · rw [if_pos (show nI tc = 0 by rw [tc0]; rfl)]
    have hk0 : kB P n T M tc t s = 0 := kB_eq (fun j hj => absurd hj (Nat.not_lt_zero j)) (Or.inr (Or.inl tc0))
    refine Or.inr ⟨_, rfl, Or.inr ⟨t, htn, ok, ?_, rfl, ?_, ?_⟩, hfr1⟩
    · rw [← hs]
      unfold okB
      rw [hk0]
      show ¬ bgn P n (t + 1) ≤ bgn P n t
      omega
    · show τ1 75 12 = nI 0
      rw [u 75 (by decide)]; exact h12
    · rw [es]
      show plI τ1 (abB P n T M tc t s (kB P n T M tc t s)).2.1
      rw [hk0]
      intro i hi
      rw [u 139 (by decide), u 140 (by decide), u 141 (by decide)]
      exact hp.2.1 i hi
  rw [if_neg (show ¬ nI tc = 0 by rw [l_0, nI_inj (by omega) (by decide)]; exact tc0)]
  obtain ⟨k, σ', v, e1, e2, e3, e4, e5⟩ := x5_blk (σ := τ1) (b := bgn P n t) (e := bgn P n (t + 1)) (T := T) (M := M) (tc := tc) (c0 := s.1) (blk := t) (a := aB (bgn P n t) s.2.1) (rI_fr hI (fun r q1 q2 => hfr1 r (by omega))) hV t61 h8 (by omega) (fun w hw => by
    obtain ⟨a1, a2, a3, a4⟩ := ht w hw
    exact ⟨a1, by rw [hfr1 71 (by omega)]; exact a2, a3, fun j hj => by rw [hfr1 (63 + w) (by omega)]; exact a4 j hj⟩) (by rw [hτ1, up_k (by decide), up_same]) (by rw [hτ1, up_same]) he (by omega) (by rw [u 75 (by decide)]; exact hp.1.1) s60 rfl rfl (Nat.le_of_lt hlt) (fun i hi => by rw [u 139 (by decide), u 140 (by decide), u 141 (by decide)]; exact hp.2.1 i hi) rfl
  obtain ⟨g11, g73, gP, g42, gm, go, gr, gr2, g72, g75, g142⟩ := e5
  have ek : kB P n T M tc t s = k := kB_eq e2 e3
  have eok : v = tf (okB P n T M tc t s) := by
    rw [e4]
    unfold okB
    rw [ek]
    exact tf_c ⟨fun q => q.2, fun q => ⟨Or.inr q, q⟩⟩
  rw [e1, Option.bind_some, eok]
  have hfr2 : ∀ r, ¬ (72 ≤ r ∧ r ≤ 144) → σ' r = σ r := fun r hr => by rw [gr r (by omega)]; exact hfr1 r hr
  have s12 : σ' 75 12 = nI 0 := by rw [g75 12 (by decide), u 75 (by decide)]; exact h12
  by_cases hok : okB P n T M tc t s
  · rw [tf_t hok, if_neg (show ¬ nI 1 = 0 by decide)]
    refine Or.inl ⟨σ', rfl, htn, fun w hw => ?_, ?_, s12, hfr2⟩
    · by_cases ew : w = t
      · rw [ew, ← hs]; exact hok
      · exact ok w (by omega)
    · rw [es]
      have hk60 := kB_le (P := P) (n := n) (T := T) (M := M) (tc := tc) (t := t) s60
      refine ⟨⟨?_, fun i hi => ?_⟩, ?_, fun w hw => ?_⟩
      · show σ' 75 11 = nI (s.1 + kB P n T M tc t s)
        rw [ek]; exact g11
      · change i < s.1 + kB P n T M tc t s at hi
        rw [ek] at hi hk60
        show σ' 137 i = (if i < s.1 then s.2.2.1 i else nI (tmB P (bgn P n t) (bgn P n (t + 1)) T M tc (abB P n T M tc t s (i - s.1)))) ∧ σ' 138 i = (if i < s.1 then s.2.2.2.1 i else nI t) ∧ ∀ j, j < 3 → σ' (77 + i) j = (if i < s.1 then s.2.2.2.2.1 i else (abB P n T M tc t s (i - s.1 + 1)).1.2.2.2) j
        by_cases ci : i < s.1
        · rw [if_pos ci, if_pos ci, if_pos ci, (go i ci).1, (go i ci).2.1, (go i ci).2.2, u 137 (by decide), u 138 (by decide), u (77 + i) (by omega)]
          exact hp.1.2 i ci
        · rw [if_neg ci, if_neg ci, if_neg ci]
          have := gm (i - s.1) (by omega)
          rw [show s.1 + (i - s.1) = i by omega] at this
          exact this
      · show plI σ' (abB P n T M tc t s (kB P n T M tc t s)).2.1
        rw [ek]; exact gP
      · show σ' 142 w = nI (if w = t then (abB P n T M tc t s (kB P n T M tc t s)).2.2 else s.2.2.2.2.2 w)
        by_cases ew : w = t
        · rw [if_pos ew, ew, ek]; exact g42
        · rw [if_neg ew, g142 w ew, u 142 (by decide)]
          exact hp.2.2 w (by omega)
  · rw [tf_f hok, if_pos (show nI 0 = 0 from rfl)]
    refine Or.inr ⟨_, rfl, Or.inr ⟨t, htn, ok, by rw [← hs]; exact hok, rfl, s12, ?_⟩, hfr2⟩
    rw [es]
    show plI σ' (abB P n T M tc t s (kB P n T M tc t s)).2.1
    rw [ek]; exact gP
end
