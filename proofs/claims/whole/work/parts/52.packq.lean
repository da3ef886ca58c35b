/-! CYCLES AND CODE, asked for -/
section
variable {σ : sg} {P : gP} {n : Nat} {z : Prop}
theorem x1_hasT {m : Nat} (h3 : σ 57 3 = nI m) (hm : m < 1000) (x : Int32) : f_X1_has σ x = some (tf (0 ≤ x.toInt ∧ x.toInt < (m : Int))) := by
  unfold f_X1_has
  by_cases h0 : x.toInt < 0
  · rw [if_pos (show x < 0 by rw [l_0, ltT (by decide)]; exact h0), tf_f (by omega)]; rfl
  · rw [if_neg (show ¬ x < 0 by rw [l_0, ltT (by decide)]; exact h0)]
    by_cases h2 : (m : Int) ≤ x.toInt
    · rw [if_pos (show σ 57 3 ≤ x by rw [h3, geT (by omega)]; exact h2), tf_f (by omega)]; rfl
    · rw [if_neg (show ¬ σ 57 3 ≤ x by rw [h3, geT (by omega)]; exact h2), tf_t (by omega)]; rfl
theorem x9_cyc {u b e : Nat} {G : Nat → Nat} (hM : rM σ P) (hV : pVs P) (h12 : σ 612 u = nI b) (h13 : σ 612 (u + 1) = nI e) (hu : u < 40) (hbe : b ≤ e) (he : e ≤ 40) (hG : ∀ i, b ≤ i → i < e → σ (687 + i) 2 = nI (G i) ∧ G i ≤ 180) : f_X9_cyclesOf σ (nI u) = some (nI (mxN P G b (e - b))) := by
  unfold f_X9_cyclesOf L_X9_cyclesOf_9
  rw [ld_612 (by omega), Option.bind_some, h12]
  refine Exists.elim (loop_c2 (F := fun a c => B_X9_cyclesOf_9 σ (nI u) a c) (e - b) (fun k a c => a = nI (mxN P G b k) ∧ c = nI (b + k)) (fun r => r = nI (mxN P G b (e - b))) (fun k a c hk hR => ?_) (fu := gN) (gN_gt (by omega)) (a := 0) (b := nI b) ⟨rfl, rfl⟩) (fun r hr => by obtain ⟨h1, rfl⟩ := hr; exact h1)
  obtain ⟨rfl, rfl⟩ := hR
  show (∃ a' c', B_X9_cyclesOf_9 σ (nI u) (nI (mxN P G b k)) (nI (b + k)) = some (.inl (a', c')) ∧ _) ∨ _
  have hx := mxN_le (P := P) (g := G) (b := b) (B := 180) k (fun i q1 q2 => (hG i q1 (by omega)).2)
  unfold B_X9_cyclesOf_9 J_X9_cyclesOf_49
  rw [l_1, nI_add, ld_612 (by omega), Option.bind_some, h13]
  by_cases ke : k = e - b
  · rw [if_pos (show nI e ≤ nI (b + k) by rw [nI_lei (by omega) (by omega)]; omega)]
    exact Or.inr ⟨_, rfl, by rw [ke]⟩
  · obtain ⟨g1, g2⟩ := hG (b + k) (by omega) (by omega)
    have hl := latN_le (pop P (b + k))
    have em : mxN P G b (k + 1) = max (mxN P G b k) (G (b + k) + latN (pop P (b + k))) := rfl
    rw [if_neg (show ¬ nI e ≤ nI (b + k) by rw [nI_lei (by omega) (by omega)]; omega), ldr_686 (by omega), Option.bind_some, l_2, ldw_687 (by omega) (by decide), Option.bind_some, g1, x9_lat hM (by omega) (hV _ (by omega)), Option.bind_some, nI_add]
    refine Or.inl ?_
    by_cases c : G (b + k) + latN (pop P (b + k)) ≤ mxN P G b k
    · rw [if_pos (show nI (G (b + k) + latN (pop P (b + k))) ≤ nI (mxN P G b k) by rw [nI_lei (by omega) (by omega)]; exact c)]
      exact ⟨_, _, rfl, by omega, by rw [em, Nat.max_eq_left c], by rw [nI_add]; rfl⟩
    · rw [if_neg (show ¬ nI (G (b + k) + latN (pop P (b + k))) ≤ nI (mxN P G b k) by rw [nI_lei (by omega) (by omega)]; exact c)]
      exact ⟨_, _, rfl, by omega, by rw [em, Nat.max_eq_right (by omega)], by rw [nI_add]; rfl⟩
theorem pk_iBun (h : iPk σ P n) : ∃ c, iBun σ c := by
  obtain ⟨c, TM, BL, SL, G, h1, h2, h3, _⟩ := h
  exact ⟨c, h1.1, h2.1, h3.1, fun k hk => ⟨by rw [(h1.2 k hk).1, (h2.2 k hk).1], by rw [(h1.2 k hk).2.1, (h2.2 k hk).2.1], fun j hj => by rw [(h1.2 k hk).2.2 j hj, (h2.2 k hk).2.2 j hj]⟩⟩
def frC (σ τ : sg) : Prop := (∀ r, r ≠ 157 → r ≠ 611 → r ≠ 612 → r ≠ 729 → r ≠ 730 → τ r = σ r) ∧ ∀ k, k ≠ 7 → k ≠ 25 → τ 157 k = σ 157 k
def quC (f1 : sg → Option Int32) (f2 : sg → Option (Int32 × sg)) (σ : sg) : Prop := ∃ (v : Int32) (τ : sg), f1 σ = some v ∧ f2 σ = some (v, τ) ∧ frC σ τ
theorem cy_ok (hp : iProg σ P n) (hb : iBlk σ P n) (hf : iFlg σ z) (hz : z → cmpl P n ∧ iPk σ P n) (x : Int32) : quC (fun s => f_X8_cycles s x) (fun s => f_X9_cycles s x) σ := by
  have hn40 := hp.2.2.2.2.2
  have hnb := nb_le P n n
  show ∃ (v : Int32) (τ : sg), f_X8_cycles σ x = some v ∧ f_X9_cycles σ x = some (v, τ) ∧ frC σ τ
  unfold f_X8_cycles f_X9_cycles
  by_cases hz0 : ¬ z
  · exact ⟨-5, σ, by rw [if_pos (show σ 75 12 = 0 by rw [hf.1, tf_0]; exact hz0)], by rw [if_pos (show σ 157 16 = 0 by rw [hf.2, tf_0]; exact hz0)], fun _ _ _ _ _ _ => rfl, fun _ _ _ => rfl⟩
  obtain ⟨hc, c, TM, BL, SL, G, i1, i2, i3, i4, i5, i6, i7, i8⟩ := hz (Classical.not_not.mp hz0)
  obtain ⟨b1, b2, b3⟩ := hb
  obtain ⟨τ, t1, t2, t3, t4⟩ := find_ok hp
  have fr : frC σ τ := ⟨fun r q1 q2 q3 _ _ => t2.1 r q1 q2 q3, fun k q1 _ => t2.2 k q1⟩
  have e9 : f_X9_isBetween τ x 0 (τ 157 7 - 1) = some (tf (0 ≤ x.toInt ∧ x.toInt < (nb P n n : Int))) := by
    rw [x9_btwt, t3.1, l_0, l_1, subT (by omega), nI_toInt (by decide)]
    exact congrArg some (tf_c (by omega))
  rw [if_neg (show ¬ σ 75 12 = 0 by rw [hf.1, tf_0]; exact hz0), if_neg (show ¬ σ 157 16 = 0 by rw [hf.2, tf_0]; exact hz0), x1_hasT (b2 hc).1 (by omega), Option.bind_some, if_tf, t1, Option.bind_some, e9, Option.bind_some, if_tf]
  refine Or.elim (Classical.em (0 ≤ x.toInt ∧ x.toInt < (nb P n n : Int))).symm (fun hx => ?_) (fun hx => ?_)
  · exact ⟨-1, τ, by rw [cif_f hx], by rw [cif_f hx], fr⟩
  obtain ⟨u, hu, rfl⟩ := nI_rg hx
  have hlt := bgn_lt (P := P) hu
  have hbe := bgn_le (P := P) (n := n) (u + 1)
  refine ⟨nI (mxN P G (bgn P n u) (bgn P n (u + 1) - bgn P n u)), τ, ?_, ?_, fr⟩
  · rw [cif_t hx, ld_142 (by omega), Option.bind_some, i8 u hu]
  · rw [cif_t hx, x9_cyc t4 hp.2.2.1 (t3.2.2 u (by omega)) (t3.2.2 (u + 1) (by omega)) (by omega) (by omega) (by omega) (fun i q1 q2 => by
      rw [t2.1 (687 + i) (by omega) (by omega) (by omega)]
      exact (i6 i (by omega)).2), Option.bind_some]
theorem cd_le {c : Nat} {TM BL : Nat → Int32} {SL : Nat → Nat → Int32} (h : buV c BL SL) : (cdN TM BL SL c).1 ≤ 100 := by
  have := (cdN_len (TM := TM) (BL := BL) (SL := SL) c).1
  have h1 := h.1
  have h2 := h.2.2
  omega
theorem cl_ok2 (hf : iFlg σ z) (hz : z → cmpl P n ∧ iPk σ P n) : quC f_X8_codeLength f_X9_codeLength σ := by
  show ∃ (v : Int32) (τ : sg), f_X8_codeLength σ = some v ∧ f_X9_codeLength σ = some (v, τ) ∧ frC σ τ
  unfold f_X8_codeLength f_X9_codeLength
  by_cases hz0 : ¬ z
  · exact ⟨-5, σ, by rw [if_pos (show σ 75 12 = 0 by rw [hf.1, tf_0]; exact hz0)], by rw [if_pos (show σ 157 16 = 0 by rw [hf.2, tf_0]; exact hz0)], fun _ _ _ _ _ _ => rfl, fun _ _ _ => rfl⟩
  obtain ⟨hc, c, TM, BL, SL, G, i1, i2, i3, i4, i5, i6, i7, i8⟩ := hz (Classical.not_not.mp hz0)
  obtain ⟨τ, t1, t2, t3, t4, t5⟩ := x9_code i2 i3
  rw [if_neg (show ¬ σ 75 12 = 0 by rw [hf.1, tf_0]; exact hz0), if_neg (show ¬ σ 157 16 = 0 by rw [hf.2, tf_0]; exact hz0), t1, Option.bind_some, i4.1]
  exact ⟨_, τ, rfl, by rw [t2.1], fun r q1 _ _ q4 q5 => t4 r q1 q4 q5, fun k _ q2 => t5 k q2⟩
theorem co_ok (hf : iFlg σ z) (hz : z → cmpl P n ∧ iPk σ P n) (x : Int32) : quC (fun s => f_X8_code s x) (fun s => f_X9_code s x) σ := by
  show ∃ (v : Int32) (τ : sg), f_X8_code σ x = some v ∧ f_X9_code σ x = some (v, τ) ∧ frC σ τ
  unfold f_X8_code f_X9_code
  by_cases hz0 : ¬ z
  · exact ⟨-5, σ, by rw [if_pos (show σ 75 12 = 0 by rw [hf.1, tf_0]; exact hz0)], by rw [if_pos (show σ 157 16 = 0 by rw [hf.2, tf_0]; exact hz0)], fun _ _ _ _ _ _ => rfl, fun _ _ _ => rfl⟩
  obtain ⟨hc, c, TM, BL, SL, G, i1, i2, i3, i4, i5, i6, i7, i8⟩ := hz (Classical.not_not.mp hz0)
  obtain ⟨τ, t1, t2, t3, t4, t5⟩ := x9_code i2 i3
  have hL := cd_le (TM := TM) i3
  have fr : frC σ τ := ⟨fun r q1 _ _ q4 q5 => t4 r q1 q4 q5, fun k _ q2 => t5 k q2⟩
  have e9 : f_X9_isBetween τ x 0 (τ 157 25 - 1) = some (tf (0 ≤ x.toInt ∧ x.toInt < ((cdN TM BL SL c).1 : Int))) := by
    rw [x9_btwt, t2.1, l_0, l_1, subT (by omega), nI_toInt (by decide)]
    exact congrArg some (tf_c (by omega))
  rw [if_neg (show ¬ σ 75 12 = 0 by rw [hf.1, tf_0]; exact hz0), if_neg (show ¬ σ 157 16 = 0 by rw [hf.2, tf_0]; exact hz0), t1, Option.bind_some, e9, Option.bind_some, if_tf]
  by_cases x0 : x.toInt < 0
  · exact ⟨-1, τ, by rw [if_pos (show x < 0 by rw [l_0, ltT (by decide)]; exact x0)], by rw [cif_f (by omega)], fr⟩
  rw [if_neg (show ¬ x < 0 by rw [l_0, ltT (by decide)]; exact x0)]
  refine Or.elim (Classical.em (x.toInt < ((cdN TM BL SL c).1 : Int))).symm (fun x1 => ?_) (fun x1 => ?_)
  · exact ⟨-1, τ, by rw [if_neg (show ¬ x < σ 75 10 by rw [i4.1, ltT (by omega)]; exact x1)], by rw [cif_f (by omega)], fr⟩
  rw [if_pos (show x < σ 75 10 by rw [i4.1, ltT (by omega)]; exact x1), cif_t (by omega)]
  obtain ⟨k, hk, rfl⟩ := nI_rg (n := (cdN TM BL SL c).1) ⟨by omega, x1⟩
  exact ⟨(cdN TM BL SL c).2.1 k + 2000, τ, by rw [ld_144 (by omega), Option.bind_some, i4.2 k hk], by rw [ld_729 (by omega), Option.bind_some, t2.2 k hk], fr⟩
theorem ci_ok (hp : iProg σ P n) (hb : iBlk σ P n) (hf : iFlg σ z) (hz : z → cmpl P n ∧ iPk σ P n) (x : Int32) : quC (fun s => f_X8_codeIndex s x) (fun s => f_X9_codeIndex s x) σ := by
  have hn40 := hp.2.2.2.2.2
  have hnb := nb_le P n n
  show ∃ (v : Int32) (τ : sg), f_X8_codeIndex σ x = some v ∧ f_X9_codeIndex σ x = some (v, τ) ∧ frC σ τ
  unfold f_X8_codeIndex f_X9_codeIndex
  by_cases hz0 : ¬ z
  · exact ⟨-5, σ, by rw [if_pos (show σ 75 12 = 0 by rw [hf.1, tf_0]; exact hz0)], by rw [if_pos (show σ 157 16 = 0 by rw [hf.2, tf_0]; exact hz0)], fun _ _ _ _ _ _ => rfl, fun _ _ _ => rfl⟩
  obtain ⟨hc, c, TM, BL, SL, G, i1, i2, i3, i4, i5, i6, i7, i8⟩ := hz (Classical.not_not.mp hz0)
  obtain ⟨b1, b2, b3⟩ := hb
  obtain ⟨τ, t1, t2, t3, t4⟩ := find_ok hp
  have hc60 := i3.1
  obtain ⟨υ, u1, u2, u3, u4, u5⟩ := x9_code (σ := τ) (c := c) (TM := TM) (BL := BL) (SL := SL) ⟨by rw [t2.2 17 (by decide)]; exact i2.1, fun i hi => by
    rw [t2.1 727 (by decide) (by decide) (by decide), t2.1 728 (by decide) (by decide) (by decide), t2.1 (626 + i) (by omega) (by omega) (by omega)]
    exact i2.2 i hi⟩ i3
  have fr : frC σ υ := ⟨fun r q1 q2 q3 q4 q5 => by rw [u4 r q1 q4 q5, t2.1 r q1 q2 q3], fun k q1 q2 => by rw [u5 k q2, t2.2 k q1]⟩
  have e9 : f_X9_isBetween υ x 0 (υ 157 7 - 1) = some (tf (0 ≤ x.toInt ∧ x.toInt < (nb P n n : Int))) := by
    rw [x9_btwt, u5 7 (by decide), t3.1, l_0, l_1, subT (by omega), nI_toInt (by decide)]
    exact congrArg some (tf_c (by omega))
  rw [if_neg (show ¬ σ 75 12 = 0 by rw [hf.1, tf_0]; exact hz0), if_neg (show ¬ σ 157 16 = 0 by rw [hf.2, tf_0]; exact hz0), x1_hasT (b2 hc).1 (by omega), Option.bind_some, if_tf, t1, Option.bind_some, u1, Option.bind_some, e9, Option.bind_some, if_tf]
  refine Or.elim (Classical.em (0 ≤ x.toInt ∧ x.toInt < (nb P n n : Int))).symm (fun hx => ?_) (fun hx => ?_)
  · exact ⟨-1, υ, by rw [cif_f hx], by rw [cif_f hx], fr⟩
  obtain ⟨u, hu, rfl⟩ := nI_rg hx
  obtain ⟨w1, i, w2, w3⟩ := i5 u hu
  refine ⟨nI ((cdN TM BL SL c).2.2 u), υ, ?_, ?_, fr⟩
  · rw [cif_t hx, ld_143 (by omega), Option.bind_some, w1]
  · have := u3 i w2
    rw [w3, ixs_nI (by omega)] at this
    rw [cif_t hx, ld_730 (by omega), Option.bind_some, this]
end
