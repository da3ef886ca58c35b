/-! THE CODE OF THE REFERENCE -/
def cM (τ : sg) (s : CD) : Prop := τ 157 25 = nI s.1 ∧ ∀ k, k < s.1 → τ 729 k = s.2.1 k
def pbv (BL : Nat → Int32) (k : Nat) : Int32 := if k = 0 then mI 1 else BL (k - 1)
section
variable {σ : sg} {TM BL : Nat → Int32} {SL : Nat → Nat → Int32} {c : Nat}
theorem sl_ge {i j : Nat} (h : slW SL i) (hj : j < 3) : (nI 0 ≤ SL i j) = ¬ SL i j = mI 4 := by
  rcases h j hj with e | ⟨x, hx, e⟩
  · rw [e]; exact propext ⟨fun q => absurd q (by decide), fun q => absurd rfl q⟩
  · rw [e, nI_lei (by decide) (by omega)]
    exact propext ⟨fun _ => mI_ne (by decide) (by decide) (by omega), fun _ => Nat.zero_le _⟩
theorem sl_lt {i j : Nat} (h : slW SL i) (hj : j < 3) : (SL i j < nI 0) = (SL i j = mI 4) := by
  rcases h j hj with e | ⟨x, hx, e⟩
  · rw [e]; exact propext ⟨fun _ => rfl, fun _ => by decide⟩
  · rw [e, nI_lti (by omega) (by decide)]
    exact propext ⟨fun q => absurd q (Nat.not_lt_zero x), fun q => absurd q (mI_ne (by decide) (by decide) (by omega))⟩
theorem x9_emp (hb : buM σ c TM BL SL) (hv : buV c BL SL) {i : Nat} (hi : i < c) : f_X9_isEmpty σ (nI i) = some (tf (empS SL i)) := by
  obtain ⟨v1, v2, v3⟩ := hv
  have hw := (v2 i hi).2
  have hs := (hb.2 i hi).2.2
  unfold f_X9_isEmpty
  rw [ldr_625 (by omega), Option.bind_some, l_0, ldw_626 (by omega) (by decide), Option.bind_some, hs 0 (by decide)]
  have e : empS SL i ↔ ∀ j, j < 3 → SL i j = mI 4 := btN_0 (sl := SL i) 3
  by_cases c0 : SL i 0 = mI 4
  · rw [if_neg (show ¬ nI 0 ≤ SL i 0 by rw [sl_ge hw (by decide)]; exact fun q => q c0), Option.bind_some, l_1, ldw_626 (by omega) (by decide), Option.bind_some, hs 1 (by decide)]
    by_cases c1 : SL i 1 = mI 4
    · rw [if_neg (show ¬ nI 0 ≤ SL i 1 by rw [sl_ge hw (by decide)]; exact fun q => q c1), Option.bind_some, l_2, ldw_626 (by omega) (by decide), Option.bind_some, hs 2 (by decide)]
      by_cases c2 : SL i 2 = mI 4
      · rw [if_neg (show ¬ nI 0 ≤ SL i 2 by rw [sl_ge hw (by decide)]; exact fun q => q c2), tf_t (show empS SL i from e.mpr (fun j hj => by
          rcases (show j = 0 ∨ j = 1 ∨ j = 2 by omega) with rfl | rfl | rfl <;> assumption))]
      · rw [if_pos (show nI 0 ≤ SL i 2 by rw [sl_ge hw (by decide)]; exact c2), tf_f (fun q => c2 (e.mp q 2 (by decide)))]
    · rw [if_pos (show nI 0 ≤ SL i 1 by rw [sl_ge hw (by decide)]; exact c1), tf_f (fun q => c1 (e.mp q 1 (by decide)))]
  · rw [if_pos (show nI 0 ≤ SL i 0 by rw [sl_ge hw (by decide)]; exact c0), tf_f (fun q => c0 (e.mp q 0 (by decide)))]
theorem buM_fr {τ τ' : sg} (hc : c ≤ 60) (h : buM τ c TM BL SL) (e1 : ∀ r, r ≠ 157 → r ≠ 729 → r ≠ 730 → τ' r = τ r) (e2 : ∀ k, k ≠ 25 → τ' 157 k = τ 157 k) : buM τ' c TM BL SL := ⟨by rw [e2 17 (by decide)]; exact h.1, fun i hi => by
  rw [e1 727 (by decide) (by decide) (by decide), e1 728 (by decide) (by decide) (by decide), e1 (626 + i) (by omega) (by omega) (by omega)]
  exact h.2 i hi⟩
theorem x9_ac (hb : buM σ c TM BL SL) (hv : buV c BL SL) {i : Nat} (hi : i < c) {s : CD} (hs : cM σ s) (hl : s.1 + 1 + flN (SL i) 3 ≤ 100) : ∃ τ', f_X9_addCode σ (nI i) = some τ' ∧ cM τ' (wrN (SL i) 3 (apn (hdV (TM i) (SL i) 3) s)) ∧ (∀ r, r ≠ 157 → r ≠ 729 → τ' r = σ r) ∧ ∀ k, k ≠ 25 → τ' 157 k = σ 157 k := by
  have v1 := hv.1
  have hw := (hv.2.1 i hi).2
  obtain ⟨h1, h2⟩ := hs
  unfold f_X9_addCode L_X9_addCode_36
  have eh : 8 * TM i + 1000 = hdV (TM i) (SL i) 0 := by
    unfold hdV
    have : nI (btN (SL i) 0) = 0 := rfl
    rw [this, Int32.add_zero]
    rfl
  have e0 : (up (up σ 729 s.1 (hdV (TM i) (SL i) 0)) 157 25 (nI (s.1 + 1))) 157 25 = nI (s.1 + 1) := up_same _ _ _ _
  rw [ld_727 (by omega), Option.bind_some, (hb.2 i hi).1, h1, eh, st_729 (by omega), Option.bind_some, up_r (show 157 ≠ 729 by decide), h1, l_1, nI_add, Option.bind_some, l_0]
  refine Exists.elim (loop_k2 (F := B_X9_addCode_36 (nI i) (nI s.1)) 3 (fun j τ => cM τ (wrN (SL i) j (apn (hdV (TM i) (SL i) j) s)) ∧ (∀ r, r ≠ 157 → r ≠ 729 → τ r = σ r) ∧ ∀ k, k ≠ 25 → τ 157 k = σ 157 k) (fun z => cM z (wrN (SL i) 3 (apn (hdV (TM i) (SL i) 3) s)) ∧ (∀ r, r ≠ 157 → r ≠ 729 → z r = σ r) ∧ ∀ k, k ≠ 25 → z 157 k = σ 157 k) (fun j τ hj hR => ?_) (fu := gN) (gN_gt (by decide)) (b := up (up σ 729 s.1 (hdV (TM i) (SL i) 0)) 157 25 (nI (s.1 + 1))) ⟨⟨e0, fun k hk => ?_⟩, fun r q1 q2 => by rw [up_r q1, up_r q2], fun k hk => by rw [up_k hk, up_r (by decide)]⟩) (fun z hz => ⟨z, hz.1, hz.2⟩)
  · unfold B_X9_addCode_36 J_X9_addCode_91
    by_cases j3 : j = 3
    · subst j3
      exact Or.inr ⟨τ, if_pos (show 3 ≤ nI 3 by decide), hR⟩
    have hj3 : j < 3 := by omega
    obtain ⟨⟨r25, r29⟩, r2, r3⟩ := hR
    have hb' : ∀ υ : sg, υ (626 + i) = τ (626 + i) → υ (626 + i) j = SL i j := fun υ h => by rw [h, r2 (626 + i) (by omega) (by omega)]; exact (hb.2 i hi).2.2 j hj3
    have e1 : ∀ S : CD, wrN (SL i) (j + 1) S = if SL i j = mI 4 then wrN (SL i) j S else apn (SL i j) (wrN (SL i) j S) := fun _ => rfl
    have e2 : hdV (TM i) (SL i) (j + 1) = nI 8 * TM i + nI 1000 + nI (if SL i j = mI 4 then btN (SL i) j else btN (SL i) j + 2 ^ j) := rfl
    rw [if_neg (show ¬ 3 ≤ nI j by rw [l_3, nI_lei (by decide) (by omega)]; omega), ldr_625 (by omega), Option.bind_some, ldw_626 (by omega) hj3, Option.bind_some, hb' τ rfl, l_0]
    refine Or.inl ?_
    by_cases ce : SL i j = mI 4
    · rw [if_pos (show SL i j < nI 0 by rw [sl_lt hw hj3]; exact ce), e1, if_pos ce, e2, if_pos ce]
      exact ⟨τ, by rw [l_1, nI_add], hj3, ⟨r25, r29⟩, r2, r3⟩
    · rw [if_neg (show ¬ SL i j < nI 0 by rw [sl_lt hw hj3]; exact ce), e1, if_neg ce]
      have hlen : ∀ v : Int32, (wrN (SL i) j (apn v s)).1 = s.1 + 1 + flN (SL i) j := fun v => by rw [wrN_len]; rfl
      have q1 : flN (SL i) (j + 1) = if SL i j = mI 4 then flN (SL i) j else flN (SL i) j + 1 := rfl
      rw [if_neg ce] at q1
      have q2 : ∀ J, flN (SL i) J ≤ flN (SL i) (J + 1) := fun J => by
        show flN (SL i) J ≤ if SL i J = mI 4 then flN (SL i) J else flN (SL i) J + 1
        by_cases z : SL i J = mI 4
        · rw [if_pos z]; exact Nat.le_refl _
        · rw [if_neg z]; exact Nat.le_succ _
      have q3 : flN (SL i) (j + 1) ≤ flN (SL i) 3 := by
        have a1 : flN (SL i) 1 ≤ flN (SL i) 2 := q2 1
        have a2 : flN (SL i) 2 ≤ flN (SL i) 3 := q2 2
        rcases (show j = 0 ∨ j = 1 ∨ j = 2 by omega) with rfl | rfl | rfl
        · exact Nat.le_trans a1 a2
        · exact a2
        · exact Nat.le_refl _
      have hhd : τ 729 s.1 = hdV (TM i) (SL i) j := by
        rw [r29 s.1 (by rw [hlen]; omega), wrN_lo j (Nat.lt_succ_self s.1)]
        exact if_pos rfl
      have eS : hdV (TM i) (SL i) j + nI (2 ^ j) = hdV (TM i) (SL i) (j + 1) := by
        rw [e2, if_neg ce]
        show nI 8 * TM i + nI 1000 + nI (btN (SL i) j) + nI (2 ^ j) = _
        rw [Int32.add_assoc, nI_add]
      rw [hlen] at r25
      rw [ld_729 (by omega), Option.bind_some, hhd, l_1, sh1 hj3, eS, st_729 (by omega), Option.bind_some, Option.bind_some, ldw_626 (by omega) hj3, Option.bind_some, hb' _ (up_r (by omega)), up_r (show 157 ≠ 729 by decide), r25, st_729 (by omega), Option.bind_some, up_r (show 157 ≠ 729 by decide), up_r (show 157 ≠ 729 by decide), r25, nI_add, Option.bind_some, nI_add]
      refine ⟨_, rfl, hj3, ⟨?_, fun k hk => ?_⟩, fun r q4 q5 => by rw [up_r q4, up_r q5, up_r q5, r2 r q4 q5], fun k hk => by rw [up_k hk, up_r (by decide), up_r (by decide), r3 k hk]⟩
      · rw [up_same]
        show _ = nI ((wrN (SL i) j (apn (hdV (TM i) (SL i) (j + 1)) s)).1 + 1)
        rw [hlen]
      · change k < (wrN (SL i) j (apn (hdV (TM i) (SL i) (j + 1)) s)).1 + 1 at hk
        rw [hlen] at hk
        rw [up_r (by decide)]
        show _ = if k = (wrN (SL i) j (apn (hdV (TM i) (SL i) (j + 1)) s)).1 then SL i j else (wrN (SL i) j (apn (hdV (TM i) (SL i) (j + 1)) s)).2.1 k
        rw [hlen]
        by_cases ek : k = s.1 + 1 + flN (SL i) j
        · rw [ek, up_same, if_pos rfl]
        · rw [up_k ek, if_neg ek]
          by_cases eh2 : k = s.1
          · rw [eh2, up_same, wrN_lo j (Nat.lt_succ_self s.1)]
            exact (if_pos rfl).symm
          · rw [up_k eh2, wrN_hd eh2 j (w := hdV (TM i) (SL i) j)]
            exact r29 k (by rw [hlen]; omega)
  · have hk' : k < s.1 + 1 := hk
    rw [up_r (by decide)]
    show _ = if k = s.1 then hdV (TM i) (SL i) 0 else s.2.1 k
    by_cases e : k = s.1
    · rw [e, up_same, if_pos rfl]
    · rw [up_k e, if_neg e]; exact h2 k (by omega)
theorem x9_code (hb : buM σ c TM BL SL) (hv : buV c BL SL) : ∃ τ', f_X9_findCode σ = some τ' ∧ cM τ' (cdN TM BL SL c) ∧ (∀ i, i < c → τ' 730 (ixs (BL i)) = nI ((cdN TM BL SL c).2.2 (ixs (BL i)))) ∧ (∀ r, r ≠ 157 → r ≠ 729 → r ≠ 730 → τ' r = σ r) ∧ ∀ k, k ≠ 25 → τ' 157 k = σ 157 k := by
  obtain ⟨v1, v2, v3⟩ := id hv
  unfold f_X9_findCode L_X9_findCode_11
  rw [Option.bind_some]
  refine Exists.elim (loop_c4 (F := B_X9_findCode_11) c (fun i x1 x2 x3 τ => x1 = pbv BL i ∧ x2 = tf (0 < i ∧ empS SL (i - 1)) ∧ x3 = nI i ∧ cM τ (cdN TM BL SL i) ∧ (∀ m, m < i → τ 730 (ixs (BL m)) = nI ((cdN TM BL SL i).2.2 (ixs (BL m)))) ∧ (∀ r, r ≠ 157 → r ≠ 729 → r ≠ 730 → τ r = σ r) ∧ ∀ k, k ≠ 25 → τ 157 k = σ 157 k) (fun z => cM z (cdN TM BL SL c) ∧ (∀ i, i < c → z 730 (ixs (BL i)) = nI ((cdN TM BL SL c).2.2 (ixs (BL i)))) ∧ (∀ r, r ≠ 157 → r ≠ 729 → r ≠ 730 → z r = σ r) ∧ ∀ k, k ≠ 25 → z 157 k = σ 157 k) (fun i x1 x2 x3 τ hi hR => ?_) (fu := gN) (gN_gt (by omega)) (a := -1) (b := 0) (c := 0) (d := up σ 157 25 0) ⟨rfl, (tf_f (fun q => absurd q.1 (Nat.lt_irrefl 0))).symm, rfl, ⟨up_same _ _ _ _, fun k hk => absurd hk (Nat.not_lt_zero k)⟩, fun m hm => absurd hm (Nat.not_lt_zero m), fun r q1 q2 q3 => up_r q1, fun k hk => up_k hk⟩) (fun z hz => ⟨z, hz.1, hz.2⟩)
  obtain ⟨rfl, rfl, rfl, r1, r2, r3, r4⟩ := hR
  show (∃ a' b' c' d', B_X9_findCode_11 (pbv BL i) _ (nI i) τ = some (.inl (a', b', c', d')) ∧ _) ∨ _
  have r17 : τ 157 17 = nI c := by rw [r4 17 (by decide)]; exact hb.1
  unfold B_X9_findCode_11
  by_cases ic : i = c
  · subst ic
    exact Or.inr ⟨τ, if_pos (show τ 157 17 ≤ nI i by rw [r17, nI_lei (by omega) (by omega)]; exact Nat.le_refl _), r1, r2, r3, r4⟩
  have hic : i < c := by omega
  have hbτ : buM τ c TM BL SL := buM_fr v1 hb r3 r4
  obtain ⟨S, hS⟩ : ∃ S, S = cdN TM BL SL i := ⟨_, rfl⟩
  have eS : cdN TM BL SL (i + 1) = cd1 TM BL SL i S := by rw [hS]; rfl
  obtain ⟨u, hu, hbu⟩ := (v2 i hic).1
  have hix : ixs (BL i) = u := by rw [hbu]; exact ixs_nI hu
  obtain ⟨n1, n2⟩ := cdN_len (TM := TM) (BL := BL) (SL := SL) i
  rw [← hS] at n1 n2 r1 r2
  have n3 : flS SL (i + 1) = flS SL i + flN (SL i) 3 := rfl
  have n4 := flS_le (SL := SL) (show i + 1 ≤ c by omega)
  have pb1 : pbv BL (i + 1) = BL i := if_neg (Nat.succ_ne_zero i)
  have go48 : ∀ (x2 : Int32) (τ1 : sg), x2 = tf (¬ cNew BL i ∧ empS SL (i - 1)) → cM τ1 (cdA BL i S) → (∀ m, m < i + 1 → τ1 730 (ixs (BL m)) = nI ((cdA BL i S).2.2 (ixs (BL m)))) → (∀ r, r ≠ 157 → r ≠ 729 → r ≠ 730 → τ1 r = σ r) → (∀ k, k ≠ 25 → τ1 157 k = σ 157 k) → ∃ a' b' c' d', J_X9_findCode_48 (BL i) x2 (nI i) τ1 = some (.inl (a', b', c', d')) ∧ i < c ∧ a' = pbv BL (i + 1) ∧ b' = tf (0 < i + 1 ∧ empS SL (i + 1 - 1)) ∧ c' = nI (i + 1) ∧ cM d' (cdN TM BL SL (i + 1)) ∧ (∀ m, m < i + 1 → d' 730 (ixs (BL m)) = nI ((cdN TM BL SL (i + 1)).2.2 (ixs (BL m)))) ∧ (∀ r, r ≠ 157 → r ≠ 729 → r ≠ 730 → d' r = σ r) ∧ ∀ k, k ≠ 25 → d' 157 k = σ 157 k := by
    intro x2 τ1 hx2 c1 c2 c3 c4
    have hb1 : buM τ1 c TM BL SL := buM_fr v1 hb c3 c4
    have a1 : (cdA BL i S).1 = S.1 := cdA_1
    unfold J_X9_findCode_48 J_X9_findCode_118
    rw [eS, x9_emp hb1 hv hic, Option.bind_some, pb1, Nat.add_sub_cancel]
    have fin : ∀ d : Prop, (empS SL i ↔ d) → tf d = tf (0 < i + 1 ∧ empS SL i) := fun d hd => tf_c ⟨fun q => ⟨Nat.succ_pos i, hd.mpr q⟩, fun q => hd.mp q.2⟩
    by_cases he : empS SL i
    · rw [tf_t he, if_neg (show ¬ nI 1 = 0 by decide)]
      unfold cd1
      rw [cif_t he]
      have f1 : (1 : Int32) = tf (0 < i + 1 ∧ empS SL i) := by rw [← fin True ⟨fun _ => trivial, fun _ => he⟩, tf_true]; rfl
      by_cases hn : ¬ cNew BL i ∧ empS SL (i - 1)
      · rw [hx2, tf_t hn, if_neg (show ¬ nI 1 = 0 by decide), cif_t hn]
        have eA : cdA BL i S = S := cif_f hn.1
        rw [eA] at c1 c2
        have i0 : i ≠ 0 := fun z => hn.1 (Or.inl z)
        have nz := n2 (by omega)
        unfold J_X9_findCode_70 J_X9_findCode_105 J_X9_findCode_118
        rw [Option.bind_some, if_neg (show ¬ nI 1 = 0 by decide), up_same, c1.1, l_0, nI_add, Nat.add_zero, l_1, nI_sub (by omega), ld_729 (by omega), Option.bind_some, up_r (show 729 ≠ 157 by decide), c1.2 _ (by omega), st_729 (by omega), Option.bind_some]
        refine ⟨_, _, _, _, rfl, hic, rfl, by rw [← f1]; rfl, by rw [nI_add], ⟨?_, fun k hk => ?_⟩, fun m hm => by rw [up_r (by decide), up_r (by decide)]; exact c2 m hm, fun r q1 q2 q3 => by rw [up_r q2, up_r q1, c3 r q1 q2 q3], fun k hk => by rw [up_r (by decide), up_k hk, c4 k hk]⟩
        · rw [up_r (by decide), up_same]
        · show _ = if k = S.1 - 1 then S.2.1 k - nI 1 else S.2.1 k
          by_cases ek : k = S.1 - 1
          · rw [ek, up_same, if_pos rfl]
          · rw [up_k ek, if_neg ek, up_r (by decide)]; exact c1.2 k hk
      · rw [hx2, tf_f hn, if_pos (show nI 0 = 0 from rfl), cif_f hn]
        unfold J_X9_findCode_70 J_X9_findCode_105 J_X9_findCode_118
        rw [Option.bind_some, if_pos (show nI 0 = 0 from rfl), up_same, c1.1, a1, l_1, nI_add, nI_sub (by omega), Nat.add_sub_cancel, st_729 (by omega), Option.bind_some]
        refine ⟨_, _, _, _, rfl, hic, rfl, by rw [← f1]; rfl, by rw [nI_add], ⟨?_, fun k hk => ?_⟩, fun m hm => by rw [up_r (by decide), up_r (by decide)]; exact c2 m hm, fun r q1 q2 q3 => by rw [up_r q2, up_r q1, c3 r q1 q2 q3], fun k hk => by rw [up_r (by decide), up_k hk, c4 k hk]⟩
        · rw [up_r (by decide), up_same]
          show _ = nI ((cdA BL i S).1 + 1)
          rw [a1]
        · change k < (cdA BL i S).1 + 1 at hk
          show _ = if k = (cdA BL i S).1 then mI 1 else (cdA BL i S).2.1 k
          rw [a1] at hk ⊢
          by_cases ek : k = S.1
          · rw [ek, up_same, if_pos rfl]; rfl
          · rw [up_k ek, if_neg ek, up_r (by decide)]; exact c1.2 k (by rw [a1]; omega)
    · rw [tf_f he, if_pos (show nI 0 = 0 from rfl)]
      unfold cd1
      rw [cif_f he]
      obtain ⟨τ2, w1, w2, w3, w4⟩ := x9_ac hb1 hv hic c1 (by rw [a1]; omega)
      rw [w1, Option.bind_some]
      refine ⟨_, _, _, _, rfl, hic, rfl, ?_, by rw [l_1, nI_add], w2, fun m hm => by rw [w3 730 (by decide) (by decide), wrN_b]; exact c2 m hm, fun r q1 q2 q3 => by rw [w3 r q1 q2, c3 r q1 q2 q3], fun k hk => by rw [w4 k hk, c4 k hk]⟩
      rw [← fin False ⟨fun q => absurd q he, False.elim⟩, tf_false]
      rfl
  refine Or.inl ?_
  rw [if_neg (show ¬ τ 157 17 ≤ nI i by rw [r17, nI_lei (by omega) (by omega)]; omega), ld_728 (by omega), Option.bind_some, (hbτ.2 i hic).2.1]
  by_cases hn : cNew BL i
  · have hne : ¬ BL i = pbv BL i := by
      by_cases i0 : i = 0
      · subst i0
        rw [hbu]
        exact mI_ne (by decide) (by decide) (by omega)
      · unfold pbv
        rw [if_neg i0]
        exact hn.elim (fun z => absurd z i0) id
    rw [if_neg hne, Option.bind_some, hbu, r1.1, st_730 hu, Option.bind_some, ← hbu]
    have eA : cdA BL i S = (S.1, S.2.1, fun w => if w = ixs (BL i) then S.1 else S.2.2 w) := cif_t hn
    refine go48 _ _ (by rw [tf_f (fun q => q.1 hn)]; rfl) (by rw [eA]; exact ⟨by rw [up_r (by decide)]; exact r1.1, fun k hk => by rw [up_r (by decide)]; exact r1.2 k hk⟩) (fun m hm => ?_) (fun r q1 q2 q3 => by rw [up_r q3, r3 r q1 q2 q3]) (fun k hk => by rw [up_r (by decide), r4 k hk])
    rw [eA]
    show _ = nI (if ixs (BL m) = ixs (BL i) then S.1 else S.2.2 (ixs (BL m)))
    by_cases e : ixs (BL m) = ixs (BL i)
    · rw [if_pos e, e, hix, up_same]
    · rw [if_neg e, up_k (by rw [← hix]; exact e)]
      exact r2 m (by
        by_cases em : m = i
        · exact absurd (by rw [em]) e
        · omega)
  · have i0 : i ≠ 0 := fun z => hn (Or.inl z)
    have e : BL i = BL (i - 1) := Classical.not_not.mp (fun q => hn (Or.inr q))
    have ep : pbv BL i = BL i := by
      unfold pbv
      rw [if_neg i0]
      exact e.symm
    rw [if_pos ep.symm, ep]
    have eA : cdA BL i S = S := cif_f hn
    refine go48 _ τ (tf_c ⟨fun q => ⟨hn, q.2⟩, fun q => ⟨by omega, q.2⟩⟩) (by rw [eA]; exact r1) (fun m hm => ?_) r3 r4
    rw [eA]
    by_cases em : m = i
    · rw [em, e]; exact r2 (i - 1) (by omega)
    · exact r2 m (by omega)
end
