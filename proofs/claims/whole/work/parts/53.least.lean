/-! THE LEAST NUMBER OF BUNDLES -/
section
variable (P : gP) (b e : Nat) (T : Nat → Nat → Nat) (M : Nat → Nat) (tc : Nat)
/-- the rest goes into k bundles -/
def canP : Nat → FS → Prop
  | 0, s => e ≤ s.1
  | k + 1, s => e ≤ s.1 ∨ ∃ t, t < tc ∧ canP k (fsN P b e (T t) (M t) 3 s)
end
theorem fs1_up {P : gP} {b e : Nat} {ty : Nat → Nat} {m j : Nat} {s : FS} : (fs1 P b e ty m j s).1 ≤ s.1 + 1 := by
  by_cases c : tkP P b e ty j s
  · rw [fs1_t c]; exact Nat.le_refl _
  · rw [fs1_f c]; exact Nat.le_succ _
theorem fsN_up {P : gP} {b e : Nat} {ty : Nat → Nat} {m : Nat} (J : Nat) {s : FS} : (fsN P b e ty m J s).1 ≤ s.1 + J := by
  induction J with
  | zero => exact Nat.le_refl _
  | succ J ih =>
    have := fs1_up (P := P) (b := b) (e := e) (ty := ty) (m := m) (j := J) (s := fsN P b e ty m J s)
    show (fs1 P b e ty m J (fsN P b e ty m J s)).1 ≤ s.1 + (J + 1)
    omega
section
variable {P : gP} {b e : Nat} {T : Nat → Nat → Nat} {M : Nat → Nat} {tc : Nat}
theorem can_end {k : Nat} {s : FS} (h : e ≤ s.1) : canP P b e T M tc k s := by
  cases k with
  | zero => exact h
  | succ k => exact Or.inl h
theorem can_len {k : Nat} : ∀ {s : FS}, canP P b e T M tc k s → e ≤ s.1 + 3 * k := by
  induction k with
  | zero => intro s h; exact h
  | succ k ih =>
    intro s h
    rcases h with h | ⟨t, _, h⟩
    · omega
    · have h1 := ih h
      have h2 := fsN_up (P := P) (b := b) (e := e) (ty := T t) (m := M t) 3 (s := s)
      omega
theorem can_s {k : Nat} {s : FS} (h : s.1 < e) : canP P b e T M tc (k + 1) s ↔ ∃ t, t < tc ∧ canP P b e T M tc k (fsN P b e (T t) (M t) 3 s) := ⟨fun q => q.elim (fun w => absurd h (Nat.not_lt.mpr w)) id, Or.inr⟩
theorem can_0 {s : FS} (h : s.1 < e) : ¬ canP P b e T M tc 0 s := fun q => absurd h (Nat.not_lt.mpr q)
theorem x8_into (hV : pVs P) (he : e ≤ 40) (h8 : tc ≤ 8) : ∀ (d k : Nat), k < d → ∀ (σ : sg) (s : FS) (B : Nat), rI σ P → σ 61 2 = nI tc → (∀ t, t < tc → tpI σ t (T t) (M t)) → σ 72 4 = nI b → σ 72 5 = nI e → okFS b e B s → B + 3 * k ≤ 900 → k ≤ 8 → (∀ i, b ≤ i → i < s.1 → σ 73 i = nI (s.2.2.1 i)) → ∃ σ', f_X8_packsInto d σ (nI k) (nI s.1) (nI s.2.1) = some (tf (canP P b e T M tc k s), σ') ∧ frI σ σ' b s := by
  intro d
  induction d with
  | zero => intro k hk; exact absurd hk (Nat.not_lt_zero k)
  | succ d ih =>
    intro k hk σ s B hI htc ht h4 h5 hok hB hk8 hg
    show ∃ σ', E_X8_packsInto (f_X8_packsInto d) σ (nI k) (nI s.1) (nI s.2.1) = some (tf (canP P b e T M tc k s), σ') ∧ frI σ σ' b s
    have hse := hok.2.1
    have fr0 : frI σ σ b s := ⟨hg, fun _ _ _ _ => rfl, fun _ _ _ => rfl⟩
    unfold E_X8_packsInto
    rw [h5, nI_sub hse, l_0, l_3, nI_mul]
    by_cases c0 : e ≤ s.1
    · rw [if_neg (show ¬ nI 0 < nI (e - s.1) by rw [nI_lti (by decide) (by omega)]; omega), tf_t (can_end c0)]
      exact ⟨σ, rfl, fr0⟩
    rw [if_pos (show nI 0 < nI (e - s.1) by rw [nI_lti (by decide) (by omega)]; omega)]
    by_cases c1 : e - s.1 ≤ k * 3
    · rw [if_pos (show nI (e - s.1) ≤ nI (k * 3) by rw [nI_lei (by omega) (by omega)]; exact c1)]
      obtain ⟨k', rfl⟩ : ∃ k', k = k' + 1 := ⟨k - 1, by omega⟩
      unfold L_X8_packsInto_28
      refine Exists.elim (loop_k2 (F := B_X8_packsInto_28 (f_X8_packsInto d) (nI (k' + 1)) (nI s.1) (nI s.2.1)) tc (fun t τ => (∀ t', t' < t → ¬ canP P b e T M tc k' (fsN P b e (T t') (M t') 3 s)) ∧ frI σ τ b s) (fun z => z.1 = tf (canP P b e T M tc (k' + 1) s) ∧ frI σ z.2 b s) (fun t τ htt hR => ?_) (fu := gN) (gN_gt (by omega)) (b := σ) ⟨fun t' h => absurd h (Nat.not_lt_zero t'), fr0⟩) (fun z hz => ⟨z.2, by rw [← hz.2.1]; exact hz.1, hz.2.2⟩)
      obtain ⟨hno, f1, f2, f3⟩ := hR
      unfold B_X8_packsInto_28
      have r2 : τ 61 2 = nI tc := by rw [f2 61 (by decide) (by decide) (by decide)]; exact htc
      by_cases ct : t = tc
      · rw [if_pos (show τ 61 2 ≤ nI t by rw [r2, nI_lei (by omega) (by omega)]; omega)]
        refine Or.inr ⟨_, rfl, ?_, f1, f2, f3⟩
        rw [tf_f (fun q => by
          obtain ⟨t', q1, q2⟩ := (can_s (by omega)).mp q
          exact hno t' (by omega) q2)]
        rfl
      · rw [if_neg (show ¬ τ 61 2 ≤ nI t by rw [r2, nI_lei (by omega) (by omega)]; omega)]
        have htp : ∀ w, w < tc → tpI τ w (T w) (M w) := fun w h => by
          obtain ⟨a1, a2, a3, a4⟩ := ht w h
          exact ⟨a1, by rw [f2 71 (by decide) (by decide) (by decide)]; exact a2, a3, fun j hj => by rw [f2 (63 + w) (by omega) (by omega) (by omega)]; exact a4 j hj⟩
        have hIτ : rI τ P := rI_fr hI (fun r q1 q2 => f2 r (by omega) (by omega) (by omega))
        have t4 : τ 72 4 = nI b := by rw [f3 4 (by decide) (by decide)]; exact h4
        have t5 : τ 72 5 = nI e := by rw [f3 5 (by decide) (by decide)]; exact h5
        obtain ⟨υ, d1, d6, d7, d73, d74, drr, d72⟩ := x2_fill (b := b) (e := e) hIτ hV (htp t (by omega)) t4 t5 he (B := B) (by omega) hok f1
        have hle := fsN_le (P := P) (b := b) (e := e) (ty := T t) (m := M t) 3 (s := s)
        obtain ⟨ω, w1, w2, w3, w4⟩ := ih k' (by omega) υ (fsN P b e (T t) (M t) 3 s) (B + 3) (rI_fr hIτ (fun r q1 q2 => drr r (by omega) (by omega) (by omega))) (by rw [drr 61 (by decide) (by decide) (by decide)]; exact r2) (fun w h => by
          obtain ⟨a1, a2, a3, a4⟩ := htp w h
          exact ⟨a1, by rw [drr 71 (by decide) (by decide) (by decide)]; exact a2, a3, fun j hj => by rw [drr (63 + w) (by omega) (by omega) (by omega)]; exact a4 j hj⟩) (by rw [d72 4 (by decide) (by decide)]; exact t4) (by rw [d72 5 (by decide) (by decide)]; exact t5) (okFS_N 3 hok) (by omega) (by omega) d73
        have frω : frI σ ω b s := ⟨fun i q1 q2 => by rw [w2 i q1 (by omega), fsN_g 3 q2], fun r q1 q2 q3 => by rw [w3 r q1 q2 q3, drr r q1 q2 q3, f2 r q1 q2 q3], fun j q1 q2 => by rw [w4 j q1 q2, d72 j q1 q2, f3 j q1 q2]⟩
        rw [d1, Option.bind_some, d6, d7, l_1, dec_nI, w1, Option.bind_some]
        by_cases cc : canP P b e T M tc k' (fsN P b e (T t) (M t) 3 s)
        · rw [tf_t cc, if_neg (show ¬ nI 1 = 0 by decide)]
          exact Or.inr ⟨_, rfl, (tf_t ((can_s (by omega)).mpr ⟨t, by omega, cc⟩)).symm, frω⟩
        · rw [tf_f cc, if_pos (show nI 0 = 0 from rfl)]
          refine Or.inl ⟨ω, by rw [nI_add], by omega, fun t' h' => ?_, frω⟩
          by_cases et : t' = t
          · rw [et]; exact cc
          · exact hno t' (by omega)
    · rw [if_neg (show ¬ nI (e - s.1) ≤ nI (k * 3) by rw [nI_lei (by omega) (by omega)]; exact c1), tf_f (fun q => by have := can_len q; omega)]
      exact ⟨σ, rfl, fr0⟩
/-- what a search of the reference leaves -/
def frS (σ σ' : sg) (b : Nat) (s0 : FS) : Prop := (∀ i, b ≤ i → i < s0.1 → σ' 623 i = nI (s0.2.2.1 i)) ∧ (∀ r, r ≠ 157 → r ≠ 623 → r ≠ 624 → σ' r = σ r) ∧ ∀ k, k ≠ 13 → k ≠ 14 → k ≠ 15 → k ≠ 22 → σ' 157 k = σ 157 k
theorem x9_search (hV : pVs P) (he : e ≤ 40) (h8 : tc ≤ 8) {tb : Nat} (htb : tb < 41) : ∀ (d m : Nat), m < d → ∀ (σ : sg) (s : FS) (B u f : Nat), rM σ P → σ 157 8 = nI tc → (∀ t, t < tc → tpM σ t (T t) (M t)) → (∀ i, b ≤ i → i < e → σ 611 i = nI tb) → σ 612 tb = nI b → okFS b e B s → B + 3 * m ≤ 900 → u + m ≤ 8 → f ≤ 10 → (∀ i, b ≤ i → i < s.1 → σ 623 i = nI (s.2.2.1 i)) → σ 157 22 = nI f → ∃ (σ' : sg) (f' : Nat), f_X9_search d σ (nI s.1) (nI s.2.1) (nI e) (nI u) (nI (u + m)) = some σ' ∧ σ' 157 22 = nI f' ∧ f' ≤ 10 ∧ (∀ x, f' ≤ x ↔ f ≤ x ∨ ∃ k, k ≤ m ∧ u + k ≤ x ∧ canP P b e T M tc k s) ∧ frS σ σ' b s := by
  intro d
  induction d with
  | zero => intro k hk; exact absurd hk (Nat.not_lt_zero k)
  | succ d ih =>
    intro m hm σ s B u f hM htc ht h11 h12 hok hB hu hf10 hg hf
    show ∃ (σ' : sg) (f' : Nat), E_X9_search (f_X9_search d) σ (nI s.1) (nI s.2.1) (nI e) (nI u) (nI (u + m)) = some σ' ∧ _
    have hse := hok.2.1
    have fr0 : frS σ σ b s := ⟨hg, fun _ _ _ _ => rfl, fun _ _ _ _ _ => rfl⟩
    unfold E_X9_search J_X9_search_24
    by_cases c0 : s.1 = e
    · rw [if_pos (show nI s.1 = nI e by rw [c0]), hf]
      have fr1 : ∀ y : Nat, frS σ (up σ 157 22 (nI y)) b s := fun y => ⟨fun i q1 q2 => by rw [up_r (by decide)]; exact hg i q1 q2, fun r q1 _ _ => up_r q1, fun k _ _ _ q4 => up_k q4⟩
      by_cases c1 : f ≤ u
      · rw [if_pos (show nI f ≤ nI u by rw [nI_lei (by omega) (by omega)]; exact c1), Option.bind_some]
        refine ⟨_, f, rfl, up_same _ _ _ _, hf10, fun x => ⟨Or.inl, fun q => q.elim id (fun ⟨k, _, k2, _⟩ => by omega)⟩, fr1 f⟩
      · rw [if_neg (show ¬ nI f ≤ nI u by rw [nI_lei (by omega) (by omega)]; exact c1), Option.bind_some]
        refine ⟨_, u, rfl, up_same _ _ _ _, by omega, fun x => ⟨fun q => Or.inr ⟨0, Nat.zero_le _, q, can_end (by omega)⟩, fun q => q.elim (fun w => by omega) (fun ⟨k, _, k2, _⟩ => by omega)⟩, fr1 u⟩
    rw [if_neg (show ¬ nI s.1 = nI e by rw [nI_inj (by omega) (by omega)]; exact c0)]
    have hlt : s.1 < e := by omega
    unfold L_X9_search_31
    rw [l_0]
    refine Exists.elim (loop_k2 (F := B_X9_search_31 (f_X9_search d) (nI s.1) (nI s.2.1) (nI e) (nI u) (nI (u + m))) tc (fun t τ => ∃ f', τ 157 22 = nI f' ∧ f' ≤ 10 ∧ (∀ x, f' ≤ x ↔ f ≤ x ∨ ∃ k t', t' < t ∧ k + 1 ≤ m ∧ u + (k + 1) ≤ x ∧ canP P b e T M tc k (fsN P b e (T t') (M t') 3 s)) ∧ frS σ τ b s) (fun z => ∃ f', z 157 22 = nI f' ∧ f' ≤ 10 ∧ (∀ x, f' ≤ x ↔ f ≤ x ∨ ∃ k, k ≤ m ∧ u + k ≤ x ∧ canP P b e T M tc k s) ∧ frS σ z b s) (fun t τ htt hR => ?_) (fu := gN) (gN_gt (by omega)) (b := σ) ⟨f, hf, hf10, fun x => ⟨Or.inl, fun q => q.elim id (fun ⟨k, t', h, _⟩ => absurd h (Nat.not_lt_zero t'))⟩, fr0⟩) (fun z hz => by
      obtain ⟨z1, f', z2, z3, z4, z5⟩ := hz
      exact ⟨z, f', z1, z2, z3, z4, z5⟩)
    obtain ⟨f', g1, g2, g3, f1, f2, f3⟩ := hR
    unfold B_X9_search_31
    have r8 : τ 157 8 = nI tc := by rw [f3 8 (by decide) (by decide) (by decide) (by decide)]; exact htc
    -- the parts of the answer
    have up1 : ∀ x, (∃ k t', t' < t ∧ k + 1 ≤ m ∧ u + (k + 1) ≤ x ∧ canP P b e T M tc k (fsN P b e (T t') (M t') 3 s)) → ∃ k, k ≤ m ∧ u + k ≤ x ∧ canP P b e T M tc k s := fun x ⟨k, t', q1, q2, q3, q4⟩ => ⟨k + 1, q2, q3, (can_s hlt).mpr ⟨t', by omega, q4⟩⟩
    have stop : (∀ x, (∃ k, k ≤ m ∧ u + k ≤ x ∧ canP P b e T M tc k s) → f' ≤ x) → ∃ f', τ 157 22 = nI f' ∧ f' ≤ 10 ∧ (∀ x, f' ≤ x ↔ f ≤ x ∨ ∃ k, k ≤ m ∧ u + k ≤ x ∧ canP P b e T M tc k s) ∧ frS σ τ b s := fun h => ⟨f', g1, g2, fun x => ⟨fun q => ((g3 x).mp q).elim Or.inl (fun w => Or.inr (up1 x w)), fun q => q.elim (fun w => (g3 x).mpr (Or.inl w)) (h x)⟩, f1, f2, f3⟩
    have down : ∀ x k, k ≤ m → u + k ≤ x → canP P b e T M tc k s → ∃ k' t', k = k' + 1 ∧ t' < tc ∧ canP P b e T M tc k' (fsN P b e (T t') (M t') 3 s) := fun x k q1 q2 q3 => by
      cases k with
      | zero => exact absurd q3 (can_0 hlt)
      | succ k =>
        obtain ⟨t', w1, w2⟩ := (can_s hlt).mp q3
        exact ⟨k, t', rfl, w1, w2⟩
    by_cases ct : t = tc
    · rw [if_pos (show τ 157 8 ≤ nI t by rw [r8, nI_lei (by omega) (by omega)]; omega)]
      refine Or.inr ⟨τ, rfl, stop (fun x ⟨k, q1, q2, q3⟩ => ?_)⟩
      obtain ⟨k', t', rfl, w1, w2⟩ := down x k q1 q2 q3
      exact (g3 x).mpr (Or.inr ⟨k', t', by omega, q1, q2, w2⟩)
    rw [if_neg (show ¬ τ 157 8 ≤ nI t by rw [r8, nI_lei (by omega) (by omega)]; omega)]
    by_cases cm : m = 0
    · rw [if_pos (show nI (u + m) ≤ nI u by rw [nI_lei (by omega) (by omega)]; omega)]
      refine Or.inr ⟨τ, rfl, stop (fun x ⟨k, q1, q2, q3⟩ => ?_)⟩
      obtain ⟨k', t', rfl, w1, w2⟩ := down x k q1 q2 q3
      omega
    rw [if_neg (show ¬ nI (u + m) ≤ nI u by rw [nI_lei (by omega) (by omega)]; omega), g1, l_1, nI_add]
    by_cases cf : f' ≤ u + 1
    · rw [if_pos (show nI f' ≤ nI (u + 1) by rw [nI_lei (by omega) (by omega)]; exact cf)]
      refine Or.inr ⟨τ, rfl, stop (fun x ⟨k, q1, q2, q3⟩ => ?_)⟩
      obtain ⟨k', t', rfl, w1, w2⟩ := down x k q1 q2 q3
      omega
    rw [if_neg (show ¬ nI f' ≤ nI (u + 1) by rw [nI_lei (by omega) (by omega)]; exact cf)]
    obtain ⟨m', rfl⟩ : ∃ m', m = m' + 1 := ⟨m - 1, by omega⟩
    have htp : ∀ w, w < tc → tpM τ w (T w) (M w) := fun w h => by
      obtain ⟨a1, a2, a3, a4⟩ := ht w h
      exact ⟨a1, by rw [f2 622 (by decide) (by decide) (by decide)]; exact a2, a3, fun j hj => by rw [f2 (614 + w) (by omega) (by omega) (by omega)]; exact a4 j hj⟩
    have hMτ : rM τ P := rM_fr hM (fun r q1 q2 => f2 r (by omega) (by omega) (by omega))
    have τ11 : ∀ i, b ≤ i → i < e → τ 611 i = nI tb := fun i q1 q2 => by rw [f2 611 (by decide) (by decide) (by decide)]; exact h11 i q1 q2
    have τ12 : τ 612 tb = nI b := by rw [f2 612 (by decide) (by decide) (by decide)]; exact h12
    obtain ⟨υ, d1, d13, d14, d15, d623, d624, drr, d57⟩ := x9_fill (b := b) (e := e) hMτ hV (htp t (by omega)) htb τ11 τ12 he (B := B) (by omega) hok f1
    have hle := fsN_le (P := P) (b := b) (e := e) (ty := T t) (m := M t) 3 (s := s)
    obtain ⟨ω, f'', w1, w2, w3, w4, w5, w6, w7⟩ := ih m' (by omega) υ (fsN P b e (T t) (M t) 3 s) (B + 3) (u + 1) f' (rM_fr hMτ (fun r q1 q2 => drr r (by omega) (by omega) (by omega))) (by rw [d57 8 (by decide) (by decide) (by decide)]; exact r8) (fun w h => by
      obtain ⟨a1, a2, a3, a4⟩ := htp w h
      exact ⟨a1, by rw [drr 622 (by decide) (by decide) (by decide)]; exact a2, a3, fun j hj => by rw [drr (614 + w) (by omega) (by omega) (by omega)]; exact a4 j hj⟩) (fun i q1 q2 => by rw [drr 611 (by decide) (by decide) (by decide)]; exact τ11 i q1 q2) (by rw [drr 612 (by decide) (by decide) (by decide)]; exact τ12) (okFS_N 3 hok) (by omega) (by omega) g2 d623 (by rw [d57 22 (by decide) (by decide) (by decide)]; exact g1)
    rw [d1, Option.bind_some, d13, d14, show u + (m' + 1) = u + 1 + m' by omega, w1, Option.bind_some, nI_add]
    refine Or.inl ⟨ω, rfl, by omega, f'', w2, w3, fun x => ?_, fun i q1 q2 => by rw [w5 i q1 (by omega), fsN_g 3 q2], fun r q1 q2 q3 => by rw [w6 r q1 q2 q3, drr r q1 q2 q3, f2 r q1 q2 q3], fun k q1 q2 q3 q4 => by rw [w7 k q1 q2 q3 q4, d57 k q1 q2 q3, f3 k q1 q2 q3 q4]⟩
    rw [w4 x, g3 x]
    constructor
    · rintro ((h | ⟨k, t', q1, q2, q3, q4⟩) | ⟨k, q1, q2, q3⟩)
      · exact Or.inl h
      · exact Or.inr ⟨k, t', by omega, q2, q3, q4⟩
      · exact Or.inr ⟨k, t, Nat.lt_succ_self t, by omega, by omega, q3⟩
    · rintro (h | ⟨k, t', q1, q2, q3, q4⟩)
      · exact Or.inl (Or.inl h)
      · by_cases et : t' = t
        · rw [et] at q4
          exact Or.inr ⟨k, by omega, by omega, q4⟩
        · exact Or.inl (Or.inr ⟨k, t', by omega, q2, q3, q4⟩)
end
