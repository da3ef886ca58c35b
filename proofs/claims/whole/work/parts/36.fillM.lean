/-! THE REFERENCE FILLS -/
theorem x9_fill134 {τ : sg} {t m j grp : Nat} {p4 : Int32} (ht : t < 8) (h : τ 622 t = nI m) (hm : m < 8) (hj : j < 3) (h14 : τ 157 14 = nI grp) : J_X9_fill_134 (nI t) p4 (nI j) τ = some (.inl (nI (j + 1), up τ 157 14 (nI (grp + bt m j)))) := by
  unfold J_X9_fill_134 J_X9_fill_159
  rw [ld_622 ht, Option.bind_some, h, bt_nI hm hj, h14]
  rcases bt_01 m j with e | e
  · rw [e, if_neg (show ¬ nI 0 = 1 by decide), l_0, nI_add, Option.bind_some, l_1, nI_add]
  · rw [e, if_pos (show nI 1 = 1 from rfl), l_1, nI_add, Option.bind_some, nI_add]
section
variable {σ : sg} {P : gP} {b e : Nat} {ty : Nat → Nat} {m t : Nat}
theorem x9_fill (hM : rM σ P) (hV : pVs P) (ht : tpM σ t ty m) {tb : Nat} (htb : tb < 41) (h11 : ∀ i, b ≤ i → i < e → σ 611 i = nI tb) (h12 : σ 612 tb = nI b) (he : e ≤ 40) {B : Nat} (hB : B ≤ 900) {s0 : FS} (hok : okFS b e B s0) (hg : ∀ i, b ≤ i → i < s0.1 → σ 623 i = nI (s0.2.2.1 i)) : ∃ σ', f_X9_fill σ (nI t) (nI s0.1) (nI s0.2.1) (nI e) = some σ' ∧ mdR σ σ' b 3 s0.1 (fsN P b e ty m 3 s0) := by
  obtain ⟨t8, t22, m8, tty⟩ := ht
  unfold f_X9_fill L_X9_fill_18
  rw [Option.bind_some, Option.bind_some, Option.bind_some, l_0]
  refine loop_k2 (F := B_X9_fill_18 (nI t) (nI e)) 3 (fun j τ => mdR σ τ b j s0.1 (fsN P b e ty m j s0)) _ (fun j τ hj hR => ?_) (fu := gN) (gN_gt (by decide)) ⟨by rw [up_k (by decide), up_k (by decide), up_same]; rfl, by rw [up_k (by decide), up_same]; rfl, by rw [up_same]; exact congrArg nI (Nat.sub_self _).symm, fun i q1 q2 => by rw [up_r (by decide), up_r (by decide), up_r (by decide)]; exact hg i q1 q2, fun j hj => absurd hj (Nat.not_lt_zero j), fun r q1 q2 q3 => by rw [up_r q1, up_r q1, up_r q1], fun k q1 q2 q3 => by rw [up_k q3, up_k q2, up_k q1]⟩
  by_cases j3 : j = 3
  · subst j3
    refine Or.inr ⟨τ, ?_, hR⟩
    unfold B_X9_fill_18
    rw [if_pos (show 3 ≤ nI 3 by decide)]
  have hj3 : j < 3 := by omega
  obtain ⟨s, hs⟩ : ∃ s, s = fsN P b e ty m j s0 := ⟨_, rfl⟩
  have hS : fsN P b e ty m (j + 1) s0 = fs1 P b e ty m j s := by rw [hs]; rfl
  have hokj : okFS b e (B + j) s := by rw [hs]; exact okFS_N j hok
  have hn0 : s0.1 ≤ s.1 := by rw [hs]; exact fsN_le j
  rw [← hs] at hR
  rw [hS]
  obtain ⟨r13, r14, r15, r623, r624, rr, rk⟩ := hR
  obtain ⟨o1, o2, o3, o4, o5⟩ := hokj
  have uM : rM τ P := rM_fr hM (fun r q1 q2 => rr r (by omega) (by omega) (by omega))
  have u22 : τ 622 t = nI m := by rw [rr 622 (by decide) (by decide) (by decide)]; exact t22
  have uty : τ (614 + t) j = nI (ty j) := by rw [rr (614 + t) (by omega) (by omega) (by omega)]; exact (tty j hj3).1
  have hz : J_X9_fill_72 (nI t) (nI e) (nI j) τ = some (.inl (nI (j + 1), up (up τ 624 j (mI 4)) 157 14 (nI (s.2.1 + bt m j)))) := by
    unfold J_X9_fill_72 J_X9_fill_73 J_X9_fill_95
    rw [if_pos (show (0 : Int32) = 0 from rfl), st_624 hj3, Option.bind_some, if_pos (show (0 : Int32) = 0 from rfl), show (-4 : Int32) = mI 4 from rfl, x9_fill134 t8 (by rw [up_r (by decide)]; exact u22) m8 hj3 (by rw [up_r (by decide)]; exact r14)]
  have h1 : J_X9_fill_73 (nI t) (nI e) (nI j) 1 τ = (st (up τ 624 j (nI s.1)) 623 (nI s.1) (nI s.2.1)).bind (fun s1 => J_X9_fill_134 (nI t) (nI e) (nI j) (up (up s1 157 13 (s1 157 13 + 1)) 157 15 (up s1 157 13 (s1 157 13 + 1) 157 15 + 1))) := by
    unfold J_X9_fill_73 J_X9_fill_95
    rw [if_neg (show ¬ (1 : Int32) = 0 by decide), r13, st_624 hj3, Option.bind_some, if_neg (show ¬ (1 : Int32) = 0 by decide), up_r (show 157 ≠ 624 by decide), r13, r14]
    rfl
  have hB1 : B_X9_fill_18 (nI t) (nI e) (nI j) τ = cif (tkP P b e ty j s) (J_X9_fill_73 (nI t) (nI e) (nI j) 1 τ) (J_X9_fill_72 (nI t) (nI e) (nI j) τ) := by
    unfold B_X9_fill_18
    rw [if_neg (show ¬ 3 ≤ nI j by rw [l_3, nI_lei (by decide) (by omega)]; omega)]
    by_cases c1 : s.1 < e
    · rw [if_neg (show ¬ nI e ≤ τ 157 13 by rw [r13, nI_lei (by omega) (by omega)]; omega), ldr_613 t8, Option.bind_some, ldw_614 t8 hj3, Option.bind_some, uty, r13, x9_fits uM hV (by omega) (tty j hj3).2, Option.bind_some, if_tf]
      by_cases c2 : ftP (pop P s.1) (ty j)
      · rw [cif_t c2, r14, x9_ready uM hV (by rw [rr 611 (by decide) (by decide) (by decide)]; exact h11 s.1 o1 c1) htb (by rw [rr 612 (by decide) (by decide) (by decide)]; exact h12) o1 (by omega) (by omega) r623 o5, Option.bind_some, if_tf]
        by_cases c3 : rdy P b s.1 s.2.1 s.2.2.1
        · rw [cif_t c3, cif_t (show tkP P b e ty j s from ⟨c1, c2, c3⟩)]
        · rw [cif_f c3, cif_f (show ¬ tkP P b e ty j s from fun q => c3 q.2.2)]
      · rw [cif_f c2, cif_f (show ¬ tkP P b e ty j s from fun q => c2 q.2.1)]
    · rw [if_pos (show nI e ≤ τ 157 13 by rw [r13, nI_lei (by omega) (by omega)]; omega), cif_f (show ¬ tkP P b e ty j s from fun q => c1 q.1)]
  rw [hB1]
  refine Or.inl ?_
  by_cases c : tkP P b e ty j s
  · have q40 : s.1 < 40 := Nat.lt_of_lt_of_le c.1 he
    rw [cif_t c, fs1_t c, h1, st_623 q40, Option.bind_some]
    obtain ⟨τ1, hτ1⟩ : ∃ τ1, τ1 = up (up τ 624 j (nI s.1)) 623 s.1 (nI s.2.1) := ⟨_, rfl⟩
    have u : ∀ r, r ≠ 623 → r ≠ 624 → τ1 r = τ r := fun r q1 q2 => by rw [hτ1, up_r q1, up_r q2]
    have u157 : τ1 157 = τ 157 := u 157 (by decide) (by decide)
    rw [← hτ1, u157, r13, l_1, nI_add, up_k (show 15 ≠ 13 by decide), u157, r15, nI_add]
    rw [x9_fill134 (m := m) (grp := s.2.1) t8 (by rw [up_r (by decide), up_r (by decide), u 622 (by decide) (by decide)]; exact u22) m8 hj3 (by rw [up_k (by decide), up_k (by decide), u157]; exact r14)]
    refine ⟨_, rfl, hj3, ?_, up_same _ _ _ _, ?_, fun i q1 q2 => ?_, fun k hk => ?_, fun r q1 q2 q3 => ?_, fun k q1 q2 q3 => ?_⟩
    · rw [up_k (by decide), up_k (by decide), up_same]
    · rw [up_k (by decide), up_same]
      exact congrArg nI (show s.1 - s0.1 + 1 = s.1 + 1 - s0.1 by omega)
    · have q2' : i < s.1 + 1 := q2
      rw [up_r (by decide), up_r (by decide), up_r (by decide), hτ1]
      show _ = nI (if i = s.1 then s.2.1 else s.2.2.1 i)
      by_cases ei : i = s.1
      · rw [if_pos ei, ei, up_same]
      · rw [if_neg ei, up_k ei, up_r (by decide)]
        exact r623 i q1 (by omega)
    · rw [up_r (by decide), up_r (by decide), up_r (by decide), hτ1, up_r (by decide)]
      show _ = (if k = j then nI s.1 else s.2.2.2 k)
      by_cases ek : k = j
      · rw [if_pos ek, ek, up_same]
      · rw [if_neg ek, up_k ek]
        exact r624 k (by omega)
    · rw [up_r q1, up_r q1, up_r q1, u r q2 q3, rr r q1 q2 q3]
    · rw [up_k q2, up_k q3, up_k q1, u157, rk k q1 q2 q3]
  · rw [cif_f c, fs1_f c, hz]
    refine ⟨_, rfl, hj3, ?_, up_same _ _ _ _, ?_, fun i q1 q2 => ?_, fun k hk => ?_, fun r q1 q2 q3 => ?_, fun k q1 q2 q3 => ?_⟩
    · rw [up_k (by decide), up_r (by decide)]; exact r13
    · rw [up_k (by decide), up_r (by decide)]; exact r15
    · rw [up_r (by decide), up_r (by decide)]
      exact r623 i q1 q2
    · rw [up_r (by decide)]
      show _ = (if k = j then mI 4 else s.2.2.2 k)
      by_cases ek : k = j
      · rw [if_pos ek, ek, up_same]
      · rw [if_neg ek, up_k ek]
        exact r624 k (by omega)
    · rw [up_r q1, up_r q3, rr r q1 q2 q3]
    · rw [up_k q2, up_r (by decide), rk k q1 q2 q3]
end
