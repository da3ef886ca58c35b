/-! FILLING A BUNDLE, BOTH SIDES -/
theorem fs1_t {P : gP} {b e : Nat} {ty : Nat → Nat} {m j : Nat} {s : FS} (h : tkP P b e ty j s) : fs1 P b e ty m j s = (s.1 + 1, s.2.1 + bt m j, (fun i => if i = s.1 then s.2.1 else s.2.2.1 i), (fun k => if k = j then nI s.1 else s.2.2.2 k)) := cif_t h
theorem fs1_f {P : gP} {b e : Nat} {ty : Nat → Nat} {m j : Nat} {s : FS} (h : ¬ tkP P b e ty j s) : fs1 P b e ty m j s = (s.1, s.2.1 + bt m j, s.2.2.1, fun k => if k = j then mI 4 else s.2.2.2 k) := cif_f h
theorem fs1_le {P : gP} {b e : Nat} {ty : Nat → Nat} {m j : Nat} {s : FS} : s.1 ≤ (fs1 P b e ty m j s).1 := by
  by_cases h : tkP P b e ty j s
  · rw [fs1_t h]; exact Nat.le_succ _
  · rw [fs1_f h]; exact Nat.le_refl _
theorem fsN_le {P : gP} {b e : Nat} {ty : Nat → Nat} {m : Nat} (j : Nat) {s : FS} : s.1 ≤ (fsN P b e ty m j s).1 := by
  induction j with
  | zero => exact Nat.le_refl _
  | succ j ih => exact Nat.le_trans ih fs1_le
def clR (σ0 σ : sg) (b J : Nat) (s : FS) : Prop := σ 72 6 = nI s.1 ∧ σ 72 7 = nI s.2.1 ∧ (∀ i, b ≤ i → i < s.1 → σ 73 i = nI (s.2.2.1 i)) ∧ (∀ j, j < J → σ 74 j = s.2.2.2 j) ∧ (∀ r, r ≠ 72 → r ≠ 73 → r ≠ 74 → σ r = σ0 r) ∧ ∀ k, k ≠ 6 → k ≠ 7 → σ 72 k = σ0 72 k
def mdR (σ0 σ : sg) (b J n0 : Nat) (s : FS) : Prop := σ 157 13 = nI s.1 ∧ σ 157 14 = nI s.2.1 ∧ σ 157 15 = nI (s.1 - n0) ∧ (∀ i, b ≤ i → i < s.1 → σ 623 i = nI (s.2.2.1 i)) ∧ (∀ j, j < J → σ 624 j = s.2.2.2 j) ∧ (∀ r, r ≠ 157 → r ≠ 623 → r ≠ 624 → σ r = σ0 r) ∧ ∀ k, k ≠ 13 → k ≠ 14 → k ≠ 15 → σ 157 k = σ0 157 k
def tpI (σ : sg) (t : Nat) (ty : Nat → Nat) (m : Nat) : Prop := t < 8 ∧ σ 71 t = nI m ∧ m < 8 ∧ ∀ j, j < 3 → σ (63 + t) j = nI (ty j) ∧ ty j < 4
def tpM (σ : sg) (t : Nat) (ty : Nat → Nat) (m : Nat) : Prop := t < 8 ∧ σ 622 t = nI m ∧ m < 8 ∧ ∀ j, j < 3 → σ (614 + t) j = nI (ty j) ∧ ty j < 4
theorem x2_fill109 {τ : sg} {t m j grp : Nat} (ht : t < 8) (h : τ 71 t = nI m) (hm : m < 8) (hj : j < 3) (h7 : τ 72 7 = nI grp) : ∃ τ', J_X2_fill_109 (nI t) (nI j) τ = some (.inl (nI (j + 1), τ')) ∧ τ' 72 7 = nI (grp + bt m j) ∧ (∀ r, r ≠ 72 → τ' r = τ r) ∧ ∀ k, k ≠ 7 → τ' 72 k = τ 72 k := by
  unfold J_X2_fill_109 J_X2_fill_132
  rw [x7_stops ht h hm hj, Option.bind_some, l_1, nI_add]
  rcases bt_01 m j with e | e
  · rw [e]
    exact ⟨τ, if_pos rfl, h7, fun _ _ => rfl, fun _ _ => rfl⟩
  · rw [e]
    refine ⟨up τ 72 7 (nI (grp + 1)), ?_, up_same _ _ _ _, fun r hr => up_r hr, fun k hk => up_k hk⟩
    rw [if_neg (show ¬ nI 1 = 0 by decide), h7, nI_add, Option.bind_some]
section
variable {σ : sg} {P : gP} {b e : Nat} {ty : Nat → Nat} {m t : Nat}
theorem x2_fill (hI : rI σ P) (hV : pVs P) (ht : tpI σ t ty m) (h4 : σ 72 4 = nI b) (h5 : σ 72 5 = nI e) (he : e ≤ 40) {B : Nat} (hB : B ≤ 900) {s0 : FS} (hok : okFS b e B s0) (hg : ∀ i, b ≤ i → i < s0.1 → σ 73 i = nI (s0.2.2.1 i)) : ∃ σ', f_X2_fill σ (nI t) (nI s0.1) (nI s0.2.1) = some σ' ∧ clR σ σ' b 3 (fsN P b e ty m 3 s0) := by
  obtain ⟨t8, t71, m8, tty⟩ := ht
  unfold f_X2_fill L_X2_fill_13
  rw [Option.bind_some, Option.bind_some, l_0]
  refine loop_k2 (F := B_X2_fill_13 (nI t)) 3 (fun j τ => clR σ τ b j (fsN P b e ty m j s0)) _ (fun j τ hj hR => ?_) (fu := gN) (gN_gt (by decide)) ⟨by rw [up_k (by decide), up_same]; rfl, up_same _ _ _ _, fun i q1 q2 => by rw [up_r (by decide), up_r (by decide)]; exact hg i q1 q2, fun j hj => absurd hj (Nat.not_lt_zero j), fun r q1 q2 q3 => by rw [up_r q1, up_r q1], fun k q1 q2 => by rw [up_k q2, up_k q1]⟩
  by_cases j3 : j = 3
  · subst j3
    refine Or.inr ⟨τ, ?_, hR⟩
    unfold B_X2_fill_13
    rw [if_pos (show 3 ≤ nI 3 by decide)]
  have hj3 : j < 3 := by omega
  obtain ⟨s, hs⟩ : ∃ s, s = fsN P b e ty m j s0 := ⟨_, rfl⟩
  have hS : fsN P b e ty m (j + 1) s0 = fs1 P b e ty m j s := by rw [hs]; rfl
  have hokj : okFS b e (B + j) s := by rw [hs]; exact okFS_N j hok
  rw [← hs] at hR
  rw [hS]
  obtain ⟨r6, r7, r73, r74, rr, rk⟩ := hR
  obtain ⟨o1, o2, o3, o4, o5⟩ := hokj
  -- the slot is emptied
  obtain ⟨τ1, hτ1⟩ : ∃ τ1, τ1 = up τ 74 j (mI 4) := ⟨_, rfl⟩
  have u : ∀ r, r ≠ 74 → τ1 r = τ r := fun r hr => by rw [hτ1, up_r hr]
  have uI : rI τ1 P := rI_fr hI (fun r q1 q2 => by rw [u r (by omega), rr r (by omega) (by omega) (by omega)])
  have u72 : τ1 72 = τ 72 := u 72 (by decide)
  have u6 : τ1 72 6 = nI s.1 := by rw [u72]; exact r6
  have u7 : τ1 72 7 = nI s.2.1 := by rw [u72]; exact r7
  have u5 : τ1 72 5 = nI e := by rw [u72, rk 5 (by decide) (by decide)]; exact h5
  have u4 : τ1 72 4 = nI b := by rw [u72, rk 4 (by decide) (by decide)]; exact h4
  have u71 : τ1 71 t = nI m := by rw [u 71 (by decide), rr 71 (by decide) (by decide) (by decide)]; exact t71
  have uty : τ1 (63 + t) j = nI (ty j) := by rw [u (63 + t) (by omega), rr (63 + t) (by omega) (by omega) (by omega)]; exact (tty j hj3).1
  have hB1 : B_X2_fill_13 (nI t) (nI j) τ = cif (tkP P b e ty j s) (J_X2_fill_109 (nI t) (nI j) (up (up (up τ1 74 j (nI s.1)) 73 s.1 (nI s.2.1)) 72 6 (nI (s.1 + 1)))) (J_X2_fill_109 (nI t) (nI j) τ1) := by
    unfold B_X2_fill_13
    rw [if_neg (show ¬ 3 ≤ nI j by rw [l_3, nI_lei (by decide) (by omega)]; omega), st_74 hj3, Option.bind_some, show up τ 74 j (-4) = τ1 from hτ1.symm]
    by_cases c1 : s.1 < e
    · rw [if_neg (show ¬ τ1 72 5 ≤ τ1 72 6 by rw [u5, u6, nI_lei (by omega) (by omega)]; omega), u6, x6_op uI (by omega), Option.bind_some, ldr_62 t8, Option.bind_some, ldw_63 t8 hj3, Option.bind_some, uty, (hV s.1 (by omega)).1, x7_fits τ1 (hV s.1 (by omega)).2.1 (tty j hj3).2, Option.bind_some, if_tf]
      by_cases c2 : ftP (pop P s.1) (ty j)
      · rw [cif_t c2, x2_ready uI hV u4 u6 u7 o1 (by omega) (by omega) (fun i q1 q2 => by rw [u 73 (by decide)]; exact r73 i q1 q2) o4 o5, Option.bind_some, if_tf]
        by_cases c3 : rdy P b s.1 s.2.1 s.2.2.1
        · rw [cif_t c3, cif_t (show tkP P b e ty j s from ⟨c1, c2, c3⟩), st_74 hj3, Option.bind_some, up_r (show 72 ≠ 74 by decide), u6, u7, st_73 (by omega), Option.bind_some, up_r (show 72 ≠ 73 by decide), up_r (show 72 ≠ 74 by decide), u6, l_1, nI_add, Option.bind_some]
        · rw [cif_f c3, cif_f (show ¬ tkP P b e ty j s from fun q => c3 q.2.2)]
      · rw [cif_f c2, cif_f (show ¬ tkP P b e ty j s from fun q => c2 q.2.1)]
    · rw [if_pos (show τ1 72 5 ≤ τ1 72 6 by rw [u5, u6, nI_lei (by omega) (by omega)]; omega), cif_f (show ¬ tkP P b e ty j s from fun q => c1 q.1)]
  rw [hB1]
  refine Or.inl ?_
  by_cases c : tkP P b e ty j s
  · rw [cif_t c, fs1_t c]
    obtain ⟨τ', e1, e2, e3, e4⟩ := x2_fill109 (τ := up (up (up τ1 74 j (nI s.1)) 73 s.1 (nI s.2.1)) 72 6 (nI (s.1 + 1))) (j := j) (grp := s.2.1) t8 (by rw [up_r (by decide), up_r (by decide), up_r (by decide)]; exact u71) m8 hj3 (by rw [up_k (by decide), up_r (by decide), up_r (by decide)]; exact u7)
    refine ⟨τ', e1, hj3, ?_, e2, fun i q1 q2 => ?_, fun k hk => ?_, fun r q1 q2 q3 => ?_, fun k q1 q2 => ?_⟩
    · rw [e4 6 (by decide), up_same]
    · have q2' : i < s.1 + 1 := q2
      rw [e3 73 (by decide), up_r (by decide)]
      show _ = nI (if i = s.1 then s.2.1 else s.2.2.1 i)
      by_cases ei : i = s.1
      · rw [if_pos ei, ei, up_same]
      · rw [if_neg ei, up_k ei, up_r (by decide), u 73 (by decide)]
        exact r73 i q1 (by omega)
    · rw [e3 74 (by decide), up_r (by decide), up_r (by decide)]
      show _ = (if k = j then nI s.1 else s.2.2.2 k)
      by_cases ek : k = j
      · rw [if_pos ek, ek, up_same]
      · rw [if_neg ek, up_k ek, hτ1, up_k ek]
        exact r74 k (by omega)
    · rw [e3 r q1, up_r q1, up_r q2, up_r q3, u r q3, rr r q1 q2 q3]
    · rw [e4 k q2, up_k q1, up_r (by decide), up_r (by decide), u72, rk k q1 q2]
  · rw [cif_f c, fs1_f c]
    obtain ⟨τ', e1, e2, e3, e4⟩ := x2_fill109 (τ := τ1) (j := j) (grp := s.2.1) t8 u71 m8 hj3 u7
    refine ⟨τ', e1, hj3, ?_, e2, fun i q1 q2 => ?_, fun k hk => ?_, fun r q1 q2 q3 => ?_, fun k q1 q2 => ?_⟩
    · rw [e4 6 (by decide)]; exact u6
    · rw [e3 73 (by decide), u 73 (by decide)]
      exact r73 i q1 q2
    · rw [e3 74 (by decide)]
      show _ = (if k = j then mI 4 else s.2.2.2 k)
      by_cases ek : k = j
      · rw [if_pos ek, ek, hτ1, up_same]
      · rw [if_neg ek, hτ1, up_k ek]
        exact r74 k (by omega)
    · rw [e3 r q1, u r q3, rr r q1 q2 q3]
    · rw [e4 k q2, u72, rk k q1 q2]
end
