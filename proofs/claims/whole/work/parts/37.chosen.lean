/-! THE CHOICE OF A TEMPLATE -/
def bc (m : Nat) : Nat := bt m 0 + bt m 1 + bt m 2
theorem bc_le (m : Nat) : bc m ≤ 3 := by
  have h0 := bt_01 m 0
  have h1 := bt_01 m 1
  have h2 := bt_01 m 2
  unfold bc
  omega
theorem j6_bits (σ : sg) {m : Nat} (hm : m < 8) : f_J6_bitCount_0f7a4 σ (nI m) = some (nI (bc m)) := by
  rcases (show m = 0 ∨ m = 1 ∨ m = 2 ∨ m = 3 ∨ m = 4 ∨ m = 5 ∨ m = 6 ∨ m = 7 by omega) with rfl | rfl | rfl | rfl | rfl | rfl | rfl | rfl <;> exact congrArg some (by decide)
theorem x9_marks (σ : sg) {m : Nat} (hm : m < 8) : f_X9_countMarks σ (nI m) = some (nI (bc m)) := by
  rcases (show m = 0 ∨ m = 1 ∨ m = 2 ∨ m = 3 ∨ m = 4 ∨ m = 5 ∨ m = 6 ∨ m = 7 by omega) with rfl | rfl | rfl | rfl | rfl | rfl | rfl | rfl <;> exact congrArg some (by decide)
theorem sub_le0 {x y : Nat} (hx : x ≤ 3) (hy : y ≤ 3) : (nI x - nI y ≤ (0 : Int32)) ↔ x ≤ y := by
  rcases (show x = 0 ∨ x = 1 ∨ x = 2 ∨ x = 3 by omega) with rfl | rfl | rfl | rfl <;> rcases (show y = 0 ∨ y = 1 ∨ y = 2 ∨ y = 3 by omega) with rfl | rfl | rfl | rfl <;> decide
theorem sub_ge0 {x y : Nat} (hx : x ≤ 3) (hy : y ≤ 3) : ((0 : Int32) ≤ nI x - nI y) ↔ y ≤ x := by
  rcases (show x = 0 ∨ x = 1 ∨ x = 2 ∨ x = 3 by omega) with rfl | rfl | rfl | rfl <;> rcases (show y = 0 ∨ y = 1 ∨ y = 2 ∨ y = 3 by omega) with rfl | rfl | rfl | rfl <;> decide
/-- t is chosen rather than b -/
def btr (cnt bs : Nat → Nat) (t b : Nat) : Prop := cnt b < cnt t ∨ (cnt t = cnt b ∧ ((cnt t = 0 ∧ bs b < bs t) ∨ (cnt t ≠ 0 ∧ bs t < bs b)))
noncomputable def chs (cnt bs : Nat → Nat) : Nat → Option Nat
  | 0 => none
  | t + 1 => match chs cnt bs t with
    | none => some t
    | some b => cif (btr cnt bs t b) (some t) (some b)
theorem chs_n {cnt bs : Nat → Nat} {t : Nat} (h : chs cnt bs t = none) : chs cnt bs (t + 1) = some t := by
  show (match chs cnt bs t with | none => some t | some b => cif (btr cnt bs t b) (some t) (some b)) = some t
  rw [h]
theorem chs_t {cnt bs : Nat → Nat} {t b : Nat} (h : chs cnt bs t = some b) (q : btr cnt bs t b) : chs cnt bs (t + 1) = some t := by
  show (match chs cnt bs t with | none => some t | some b => cif (btr cnt bs t b) (some t) (some b)) = some t
  rw [h]
  exact cif_t q
theorem chs_f {cnt bs : Nat → Nat} {t b : Nat} (h : chs cnt bs t = some b) (q : ¬ btr cnt bs t b) : chs cnt bs (t + 1) = some b := by
  show (match chs cnt bs t with | none => some t | some b => cif (btr cnt bs t b) (some t) (some b)) = some b
  rw [h]
  exact cif_f q
theorem chs_lt {cnt bs : Nat → Nat} {t : Nat} : ∀ b, chs cnt bs t = some b → b < t := by
  induction t with
  | zero => intro b h; cases h
  | succ t ih =>
    intro b h
    cases hc : chs cnt bs t with
    | none => rw [chs_n hc] at h; cases h; exact Nat.lt_succ_self _
    | some c =>
      by_cases q : btr cnt bs t c
      · rw [chs_t hc q] at h; cases h; exact Nat.lt_succ_self _
      · rw [chs_f hc q] at h; cases h; exact Nat.lt_succ_of_lt (ih _ hc)
theorem chs_some {cnt bs : Nat → Nat} {t : Nat} : ∃ b, chs cnt bs (t + 1) = some b ∧ b < t + 1 := by
  cases hc : chs cnt bs (t + 1) with
  | none =>
    cases hd : chs cnt bs t with
    | none => rw [chs_n hd] at hc; cases hc
    | some c =>
      by_cases q : btr cnt bs t c
      · rw [chs_t hd q] at hc; cases hc
      · rw [chs_f hd q] at hc; cases hc
  | some b => exact ⟨b, rfl, chs_lt b hc⟩
def cbv : Option Nat → Int32
  | none => mI 1
  | some b => nI b
def ccv (cnt : Nat → Nat) : Option Nat → Int32
  | none => mI 1
  | some b => nI (cnt b)
theorem fs1_g {P : gP} {b e : Nat} {ty : Nat → Nat} {m j : Nat} {s : FS} {i : Nat} (h : i < s.1) : (fs1 P b e ty m j s).2.2.1 i = s.2.2.1 i := by
  by_cases c : tkP P b e ty j s
  · rw [fs1_t c]; exact if_neg (by omega)
  · rw [fs1_f c]
theorem fsN_g {P : gP} {b e : Nat} {ty : Nat → Nat} {m : Nat} (j : Nat) {s : FS} {i : Nat} (h : i < s.1) : (fsN P b e ty m j s).2.2.1 i = s.2.2.1 i := by
  induction j with
  | zero => rfl
  | succ j ih => exact Eq.trans (fs1_g (Nat.lt_of_lt_of_le h (fsN_le j))) ih
/-- how many a template takes -/
noncomputable def cnF (P : gP) (b e : Nat) (T : Nat → Nat → Nat) (M : Nat → Nat) (s0 : FS) (t : Nat) : Nat := (fsN P b e (T t) (M t) 3 s0).1 - s0.1
noncomputable def chF (P : gP) (b e : Nat) (T : Nat → Nat → Nat) (M : Nat → Nat) (s0 : FS) : Nat → Option Nat := chs (cnF P b e T M s0) (fun t => bc (M t))
def frI (σ σ' : sg) (b : Nat) (s0 : FS) : Prop := (∀ i, b ≤ i → i < s0.1 → σ' 73 i = nI (s0.2.2.1 i)) ∧ (∀ r, r ≠ 72 → r ≠ 73 → r ≠ 74 → σ' r = σ r) ∧ ∀ k, k ≠ 6 → k ≠ 7 → σ' 72 k = σ 72 k
def frM (σ σ' : sg) (b : Nat) (s0 : FS) : Prop := (∀ i, b ≤ i → i < s0.1 → σ' 623 i = nI (s0.2.2.1 i)) ∧ (∀ r, r ≠ 157 → r ≠ 623 → r ≠ 624 → σ' r = σ r) ∧ ∀ k, k ≠ 13 → k ≠ 14 → k ≠ 15 → σ' 157 k = σ 157 k
section
variable {σ : sg} {P : gP} {b e : Nat} {T : Nat → Nat → Nat} {M : Nat → Nat} {tc : Nat}
theorem x2_pref {τ : sg} {t c n : Nat} (ht : t < 8) (hc : c < 8) (h1 : τ 71 t = nI (M t)) (h2 : τ 71 c = nI (M c)) (m1 : M t < 8) (m2 : M c < 8) (hn : n < 1000) : f_X2_isPreferred τ (nI t) (nI c) (nI n) = some (tf ((n = 0 ∧ bc (M c) < bc (M t)) ∨ (n ≠ 0 ∧ bc (M t) < bc (M c)))) := by
  unfold f_X2_isPreferred f_X7_stopCount
  rw [ld_71 ht, Option.bind_some, h1, j6_bits τ m1, Option.bind_some, Option.bind_some, ld_71 hc, Option.bind_some, h2, j6_bits τ m2, Option.bind_some, Option.bind_some]
  by_cases h0 : n = 0
  · subst h0
    rw [if_pos (show nI 0 ≤ 0 by decide)]
    by_cases q : bc (M t) ≤ bc (M c)
    · rw [if_pos ((sub_le0 (bc_le _) (bc_le _)).mpr q), tf_f (by omega)]; rfl
    · rw [if_neg (fun z => q ((sub_le0 (bc_le _) (bc_le _)).mp z)), tf_t (by omega)]; rfl
  · rw [if_neg (show ¬ nI n ≤ 0 by rw [l_0, nI_lei (by omega) (by decide)]; omega)]
    by_cases q : bc (M c) ≤ bc (M t)
    · rw [if_pos ((sub_ge0 (bc_le _) (bc_le _)).mpr q), tf_f (by omega)]; rfl
    · rw [if_neg (fun z => q ((sub_ge0 (bc_le _) (bc_le _)).mp z)), tf_t (by omega)]; rfl
theorem x2_chosen (hI : rI σ P) (hV : pVs P) (htc : σ 61 2 = nI tc) (h8 : tc ≤ 8) (ht : ∀ t, t < tc → tpI σ t (T t) (M t)) (h4 : σ 72 4 = nI b) (h5 : σ 72 5 = nI e) (he : e ≤ 40) {B : Nat} (hB : B ≤ 900) {s0 : FS} (hok : okFS b e B s0) (hg : ∀ i, b ≤ i → i < s0.1 → σ 73 i = nI (s0.2.2.1 i)) : ∃ σ', f_X2_chosenTemplate σ (nI s0.1) (nI s0.2.1) = some (nI ((chF P b e T M s0 tc).getD 0), σ') ∧ frI σ σ' b s0 := by
  unfold f_X2_chosenTemplate L_X2_chosenTemplate_8
  refine Exists.elim (loop_c4 (F := B_X2_chosenTemplate_8 (nI s0.1) (nI s0.2.1)) tc (fun k a c d τ => a = nI ((chF P b e T M s0 k).getD 0) ∧ c = ccv (cnF P b e T M s0) (chF P b e T M s0 k) ∧ d = nI k ∧ frI σ τ b s0) (fun z => z.1 = nI ((chF P b e T M s0 tc).getD 0) ∧ frI σ z.2 b s0) (fun k a c d τ hk hIk => ?_) (fu := gN) (gN_gt (by omega)) (a := 0) (b := -1) (c := 0) (d := σ) ⟨rfl, rfl, rfl, hg, fun _ _ _ _ => rfl, fun _ _ _ => rfl⟩) (fun z hz => ⟨z.2, by rw [hz.1, ← hz.2.1], hz.2.2⟩)
  obtain ⟨rfl, rfl, rfl, f1, f2, f3⟩ := hIk
  show (∃ a' c' d' τ', B_X2_chosenTemplate_8 (nI s0.1) (nI s0.2.1) _ _ (nI k) τ = some (.inl (a', c', d', τ')) ∧ _) ∨ _
  unfold B_X2_chosenTemplate_8 J_X2_chosenTemplate_62 J_X2_chosenTemplate_69
  have t61 : τ 61 2 = nI tc := by rw [f2 61 (by decide) (by decide) (by decide)]; exact htc
  by_cases hkt : tc ≤ k
  · have : k = tc := by omega
    subst this
    refine Or.inr ⟨_, if_pos (show τ 61 2 ≤ nI k by rw [t61, nI_lei (by omega) (by omega)]; exact hkt), rfl, f1, f2, f3⟩
  refine Or.inl ?_
  rw [if_neg (show ¬ τ 61 2 ≤ nI k by rw [t61, nI_lei (by omega) (by omega)]; exact hkt)]
  have htp : ∀ t, t < tc → tpI τ t (T t) (M t) := fun t h => by
    obtain ⟨a1, a2, a3, a4⟩ := ht t h
    exact ⟨a1, by rw [f2 71 (by decide) (by decide) (by decide)]; exact a2, a3, fun j hj => by rw [f2 (63 + t) (by omega) (by omega) (by omega)]; exact a4 j hj⟩
  obtain ⟨υ, v1, v6, v7, v73, v74, vr, vk⟩ := x2_fill (b := b) (e := e) (rI_fr hI (fun r q1 q2 => f2 r (by omega) (by omega) (by omega))) hV (htp k (by omega)) (by rw [f3 4 (by decide) (by decide)]; exact h4) (by rw [f3 5 (by decide) (by decide)]; exact h5) he hB hok f1
  have hcn : υ 72 6 - nI s0.1 = nI (cnF P b e T M s0 k) := by rw [v6, nI_sub (fsN_le 3)]; rfl
  have hle : (fsN P b e (T k) (M k) 3 s0).1 ≤ e := (okFS_N 3 hok).2.1
  have hcle : ∀ t, cnF P b e T M s0 t ≤ 40 := fun t => by
    have : (fsN P b e (T t) (M t) 3 s0).1 ≤ e := (okFS_N 3 hok).2.1
    unfold cnF
    omega
  have hfr : frI σ υ b s0 := ⟨fun i q1 q2 => by rw [v73 i q1 (Nat.lt_of_lt_of_le q2 (fsN_le 3)), fsN_g 3 q2], fun r q1 q2 q3 => by rw [vr r q1 q2 q3, f2 r q1 q2 q3], fun j q1 q2 => by rw [vk j q1 q2, f3 j q1 q2]⟩
  rw [v1, Option.bind_some, hcn, l_1, nI_add]
  have hc9 := hcle k
  cases hc : chF P b e T M s0 k with
  | none =>
    rw [if_pos (show ccv (cnF P b e T M s0) none < nI (cnF P b e T M s0 k) from mI_lt (by decide) (by decide) (by omega))]
    exact ⟨_, _, _, _, rfl, by omega, by rw [show chF P b e T M s0 (k + 1) = some k from chs_n hc]; rfl, by rw [show chF P b e T M s0 (k + 1) = some k from chs_n hc]; rfl, rfl, hfr⟩
  | some c =>
    have hck : c < k := chs_lt c hc
    have hc8 := hcle c
    rw [show ccv (cnF P b e T M s0) (some c) = nI (cnF P b e T M s0 c) from rfl]
    by_cases q1 : cnF P b e T M s0 c < cnF P b e T M s0 k
    · rw [if_pos (show nI (cnF P b e T M s0 c) < nI (cnF P b e T M s0 k) by rw [nI_lti (by omega) (by omega)]; exact q1)]
      have q : chF P b e T M s0 (k + 1) = some k := chs_t hc (Or.inl q1)
      exact ⟨_, _, _, _, rfl, by omega, by rw [q]; rfl, by rw [q]; rfl, rfl, hfr⟩
    rw [if_neg (show ¬ nI (cnF P b e T M s0 c) < nI (cnF P b e T M s0 k) by rw [nI_lti (by omega) (by omega)]; exact q1)]
    by_cases q2 : cnF P b e T M s0 k = cnF P b e T M s0 c
    · rw [if_pos (show nI (cnF P b e T M s0 k) = nI (cnF P b e T M s0 c) from congrArg nI q2)]
      rw [show nI ((some c).getD 0) = nI c from rfl, x2_pref (M := M) (by omega) (by omega) (by rw [vr 71 (by decide) (by decide) (by decide)]; exact (htp k (by omega)).2.1) (by rw [vr 71 (by decide) (by decide) (by decide)]; exact (htp c (by omega)).2.1) (htp k (by omega)).2.2.1 (htp c (by omega)).2.2.1 (by omega), Option.bind_some, if_tf]
      by_cases q3 : (cnF P b e T M s0 k = 0 ∧ bc (M c) < bc (M k)) ∨ (cnF P b e T M s0 k ≠ 0 ∧ bc (M k) < bc (M c))
      · rw [cif_t q3]
        have q : chF P b e T M s0 (k + 1) = some k := chs_t hc (Or.inr ⟨q2, q3⟩)
        exact ⟨_, _, _, _, rfl, by omega, by rw [q]; rfl, by rw [q]; rfl, rfl, hfr⟩
      · rw [cif_f q3]
        have q : chF P b e T M s0 (k + 1) = some c := chs_f hc (fun z => z.elim q1 (fun w => q3 w.2))
        exact ⟨_, _, _, _, rfl, by omega, by rw [q]; rfl, by rw [q]; rfl, rfl, hfr⟩
    · rw [if_neg (show ¬ nI (cnF P b e T M s0 k) = nI (cnF P b e T M s0 c) by rw [nI_inj (by omega) (by omega)]; exact q2)]
      have q : chF P b e T M s0 (k + 1) = some c := chs_f hc (fun z => z.elim q1 (fun w => q2 w.1))
      exact ⟨_, _, _, _, rfl, by omega, by rw [q], by rw [q]; rfl, rfl, hfr⟩
end
