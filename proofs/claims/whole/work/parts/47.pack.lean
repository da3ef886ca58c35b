/-! BLOCK AFTER BLOCK, in the abstract -/
def abF (P : gP) (b : Nat) (PL0 : gP) (a : AB) : Prop := rdyA P b a.1 ∧ (∀ i, b ≤ i → i < a.1.1 → a.2.1 i 2 = nI (a.1.2.2.1 i)) ∧ (∀ i, (i < b ∨ a.1.1 ≤ i) → i < 1000 → a.2.1 i = PL0 i) ∧ a.2.2 = mxN P a.1.2.2.1 b (a.1.1 - b)
theorem abF_1 {P : gP} {b e B c tc : Nat} {T : Nat → Nat → Nat} {M : Nat → Nat} {PL0 : gP} {a : AB} (he : e ≤ 40) (hok : okFS b e B a.1) (hB : B + 3 < 1000) (h : abF P b PL0 a) : abF P b PL0 (ab1 P b e T M tc c a) := by
  obtain ⟨h1, h2, h3, h4⟩ := h
  obtain ⟨q, hq⟩ : ∃ q, q = tmB P b e T M tc a := ⟨_, rfl⟩
  have hfs : fsB P b e T M tc a = fsN P b e (T q) (M q) 3 a.1 := by rw [hq]; rfl
  have hsv : slV (fsB P b e T M tc a).2.2.2 (fsB P b e T M tc a).2.2.1 := by rw [hfs]; exact fs_slV he hB hok
  have hb : b ≤ a.1.1 := hok.1
  have hle : a.1.1 ≤ (fsB P b e T M tc a).1 := by rw [hfs]; exact fsN_le 3
  have hlt : (fsB P b e T M tc a).1 ≤ e := by rw [hfs]; exact (okFS_N 3 hok).2.1
  have out : ∀ i, (i < a.1.1 ∨ (fsB P b e T M tc a).1 ≤ i) → i < 1000 → plN c (fsB P b e T M tc a).2.2.2 (fsB P b e T M tc a).2.2.1 a.2.1 3 i = a.2.1 i := fun i hi hk => plN_o (Nat.le_refl 3) hsv (fun j hj hji => by
    rcases fs_sl (P := P) (b := b) (e := e) (ty := T q) (m := M q) (s0 := a.1) 3 j hj with w | ⟨x, x1, x2, x3⟩
    · rw [← hfs, hji] at w; exact absurd w (mI_ne (by decide) (by decide) (by omega))
    · rw [← hfs] at x2 x3
      rw [hji, nI_inj (by omega) (by omega)] at x3
      omega)
  refine ⟨?_, fun i q1 q2 => ?_, fun i hi hk => ?_, ?_⟩
  · show rdyA P b (fsB P b e T M tc a)
    rw [hfs]; exact rdyA_N 3 h1
  · change i < (fsB P b e T M tc a).1 at q2
    show plN c (fsB P b e T M tc a).2.2.2 (fsB P b e T M tc a).2.2.1 a.2.1 3 i 2 = nI ((fsB P b e T M tc a).2.2.1 i)
    by_cases ci : i < a.1.1
    · rw [out i (Or.inl ci) (by omega), h2 i q1 ci, hfs, fsN_g 3 ci]
    · refine plN_g (Nat.le_refl 3) (by omega) hsv ?_
      rw [hfs] at q2 ⊢
      exact fs_has 3 i (by omega) q2
  · change i < b ∨ (fsB P b e T M tc a).1 ≤ i at hi
    show plN c (fsB P b e T M tc a).2.2.2 (fsB P b e T M tc a).2.2.1 a.2.1 3 i = PL0 i
    rw [out i (by omega) hk, h3 i (by omega) hk]
  · show cyN P (fsB P b e T M tc a).2.2.2 (fsB P b e T M tc a).2.2.1 a.2.2 3 = mxN P (fsB P b e T M tc a).2.2.1 b ((fsB P b e T M tc a).1 - b)
    rw [h4, hfs]
    exact cyN_mx he hb 3 _ _ (fun _ _ => rfl) (fun _ _ _ => rfl)
def aB (b : Nat) (PL : gP) : AB := ((b, 0, fun _ => 0, fun _ => 0), PL, 0)
theorem aB_ok {b e : Nat} {PL : gP} (h : b ≤ e) : okFS b e 0 (aB b PL).1 := ⟨Nat.le_refl _, h, Nat.le_refl _, fun i k q1 q2 q3 => absurd q3 (by show ¬ k < b; omega), fun i q1 q2 => absurd q2 (by show ¬ i < b; omega)⟩
theorem aB_F {P : gP} {b : Nat} {PL : gP} : abF P b PL (aB b PL) := ⟨fun x q1 q2 => absurd q2 (by show ¬ x < b; omega), fun i q1 q2 => absurd q2 (by show ¬ i < b; omega), fun _ _ _ => rfl, by show 0 = mxN P (fun _ => 0) b (b - b); rw [Nat.sub_self]; rfl⟩
theorem abN_F {P : gP} {b e c0 tc : Nat} {T : Nat → Nat → Nat} {M : Nat → Nat} {PL : gP} (he : e ≤ 40) (hbe : b ≤ e) (k : Nat) (hk : k ≤ 60) : abF P b PL (abN P b e T M tc c0 (aB b PL) k) := by
  induction k with
  | zero => exact aB_F
  | succ k ih => exact abF_1 he (abN_ok (aB_ok hbe) k) (by omega) (ih (by omega))
/-- the first place -/
noncomputable def fst_ (Q : Nat → Prop) : Nat → Nat → Nat
  | 0, k => k
  | f + 1, k => cif (Q k) k (fst_ Q f (k + 1))
theorem fst_eq {Q : Nat → Prop} {k : Nat} (h1 : ∀ j, j < k → ¬ Q j) (h2 : Q k) : ∀ f j, j ≤ k → k ≤ j + f → fst_ Q f j = k := by
  intro f
  induction f with
  | zero => intro j q1 q2; show j = k; omega
  | succ f ih =>
    intro j q1 q2
    show cif (Q j) j (fst_ Q f (j + 1)) = k
    by_cases c : j = k
    · rw [c, cif_t h2]
    · rw [cif_f (h1 j (by omega))]
      exact ih (j + 1) (by omega) (by omega)
/-- count, places, templates, blocks, slots, cycles -/
abbrev PK := Nat × gP × (Nat → Int32) × (Nat → Int32) × (Nat → Nat → Int32) × (Nat → Nat)
section
variable (P : gP) (n : Nat) (T : Nat → Nat → Nat) (M : Nat → Nat) (tc : Nat)
noncomputable def abB (t : Nat) (s : PK) (k : Nat) : AB := abN P (bgn P n t) (bgn P n (t + 1)) T M tc s.1 (aB (bgn P n t) s.2.1) k
noncomputable def kB (t : Nat) (s : PK) : Nat := fst_ (endP P (bgn P n t) (bgn P n (t + 1)) T M tc s.1 (aB (bgn P n t) s.2.1)) 60 0
def okB (t : Nat) (s : PK) : Prop := bgn P n (t + 1) ≤ (abB P n T M tc t s (kB P n T M tc t s)).1.1
noncomputable def pk1 (t : Nat) (s : PK) : PK := (s.1 + kB P n T M tc t s, (abB P n T M tc t s (kB P n T M tc t s)).2.1, (fun i => if i < s.1 then s.2.2.1 i else nI (tmB P (bgn P n t) (bgn P n (t + 1)) T M tc (abB P n T M tc t s (i - s.1)))), (fun i => if i < s.1 then s.2.2.2.1 i else nI t), (fun i => if i < s.1 then s.2.2.2.2.1 i else (abB P n T M tc t s (i - s.1 + 1)).1.2.2.2), fun u => if u = t then (abB P n T M tc t s (kB P n T M tc t s)).2.2 else s.2.2.2.2.2 u)
noncomputable def pkN (PL : gP) : Nat → PK
  | 0 => (0, PL, fun _ => 0, fun _ => 0, fun _ _ => 0, fun _ => 0)
  | t + 1 => pk1 P n T M tc t (pkN PL t)
def pkOK (PL : gP) (t : Nat) : Prop := ∀ u, u < t → okB P n T M tc u (pkN P n T M tc PL u)
end
def gPL (PL : gP) (i : Nat) : Nat := (PL i 2).toNatClampNeg
def flS (SL : Nat → Nat → Int32) : Nat → Nat
  | 0 => 0
  | i + 1 => flS SL i + flN (SL i) 3
theorem flS_c {SL SL' : Nat → Nat → Int32} (c : Nat) (h : ∀ i, i < c → ∀ j, j < 3 → SL' i j = SL i j) : flS SL' c = flS SL c := by
  induction c with
  | zero => rfl
  | succ c ih =>
    show flS SL' c + flN (SL' c) 3 = flS SL c + flN (SL c) 3
    rw [ih (fun i hi => h i (by omega)), flN_c 3 (h c (by omega))]
def slW (SL : Nat → Nat → Int32) (i : Nat) : Prop := ∀ j, j < 3 → SL i j = mI 4 ∨ ∃ x, x < 40 ∧ SL i j = nI x
/-- what is true of a packing of t blocks -/
def pkF (P : gP) (n t : Nat) (s : PK) : Prop := s.1 ≤ 60 ∧ (∀ i, i < bgn P n t → s.2.1 i 2 = nI (gPL s.2.1 i) ∧ gPL s.2.1 i ≤ 180) ∧ (∀ u, u < t → ∀ x, bgn P n u ≤ x → x < bgn P n (u + 1) → rdy P (bgn P n u) x (gPL s.2.1 x) (gPL s.2.1) ∧ ∀ i, bgn P n u ≤ i → i ≤ x → gPL s.2.1 i ≤ gPL s.2.1 x) ∧ (∀ u, u < t → s.2.2.2.2.2 u = mxN P (gPL s.2.1) (bgn P n u) (bgn P n (u + 1) - bgn P n u)) ∧ flS s.2.2.2.2.1 s.1 = bgn P n t ∧ (∀ i, i < s.1 → (∃ u, u < t ∧ s.2.2.2.1 i = nI u) ∧ slW s.2.2.2.2.1 i) ∧ ∀ u, u < t → ∃ i, i < s.1 ∧ s.2.2.2.1 i = nI u
section
variable {P : gP} {n : Nat} {T : Nat → Nat → Nat} {M : Nat → Nat} {tc : Nat}
theorem kB_eq {t k : Nat} {s : PK} (h1 : ∀ j, j < k → ¬ endP P (bgn P n t) (bgn P n (t + 1)) T M tc s.1 (aB (bgn P n t) s.2.1) j) (h2 : endP P (bgn P n t) (bgn P n (t + 1)) T M tc s.1 (aB (bgn P n t) s.2.1) k) : kB P n T M tc t s = k := fst_eq h1 h2 60 0 (Nat.zero_le _) (by
  by_cases q : k ≤ 60
  · omega
  · exact absurd (Or.inl (Or.inl (by omega))) (h1 60 (by omega)))
theorem kB_end (t : Nat) (s : PK) : (∀ j, j < kB P n T M tc t s → ¬ endP P (bgn P n t) (bgn P n (t + 1)) T M tc s.1 (aB (bgn P n t) s.2.1) j) ∧ endP P (bgn P n t) (bgn P n (t + 1)) T M tc s.1 (aB (bgn P n t) s.2.1) (kB P n T M tc t s) := by
  have key : ∀ (Q : Nat → Prop) (m : Nat), Q m → ∃ k, (∀ j, j < k → ¬ Q j) ∧ Q k := fun Q m => by
    induction m using Nat.strongRecOn with
    | ind m ih =>
      intro hm
      by_cases q : ∃ j, j < m ∧ Q j
      · obtain ⟨j, j1, j2⟩ := q
        exact ih j j1 j2
      · exact ⟨m, fun j hj hq => q ⟨j, hj, hq⟩, hm⟩
  obtain ⟨k, h1, h2⟩ := key (endP P (bgn P n t) (bgn P n (t + 1)) T M tc s.1 (aB (bgn P n t) s.2.1)) 60 (Or.inl (Or.inl (Nat.le_add_left 60 s.1)))
  rw [kB_eq h1 h2]
  exact ⟨h1, h2⟩
theorem kB_le {t : Nat} {s : PK} (h : s.1 ≤ 60) : s.1 + kB P n T M tc t s ≤ 60 := by
  obtain ⟨h1, h2⟩ := kB_end (P := P) (n := n) (T := T) (M := M) (tc := tc) t s
  by_cases q : kB P n T M tc t s = 0
  · omega
  · have := h1 (kB P n T M tc t s - 1) (by omega)
    by_cases w : 60 ≤ s.1 + (kB P n T M tc t s - 1)
    · exact absurd (Or.inl (Or.inl w)) this
    · omega
theorem gPL_nI {PL : gP} {i g : Nat} (h : PL i 2 = nI g) (hg : g < 1000) : gPL PL i = g := by
  unfold gPL
  rw [h]
  exact nI_clamp (by omega)
theorem fl_blk {b e c0 : Nat} {a : AB} (he : e ≤ 40) (k : Nat) : ∀ SL : Nat → Nat → Int32, (∀ m, m < k → SL (c0 + m) = (abN P b e T M tc c0 a (m + 1)).1.2.2.2) → flS SL (c0 + k) + a.1.1 = flS SL c0 + (abN P b e T M tc c0 a k).1.1 := by
  induction k with
  | zero => intro SL _; rfl
  | succ k ih =>
    intro SL h
    have h1 := ih SL (fun m hm => h m (by omega))
    have h2 : flS SL (c0 + (k + 1)) = flS SL (c0 + k) + flN (SL (c0 + k)) 3 := rfl
    rw [h2, h k (by omega)]
    have h3 : (abN P b e T M tc c0 a k).1.1 + flN (abN P b e T M tc c0 a (k + 1)).1.2.2.2 3 = (abN P b e T M tc c0 a (k + 1)).1.1 := fl_fs he 3
    omega
theorem pkF_1 {t : Nat} {s : PK} (hn : n ≤ 40) (ht : t < nb P n n) (h : pkF P n t s) (hok : okB P n T M tc t s) : pkF P n (t + 1) (pk1 P n T M tc t s) := by
  obtain ⟨h1, h2, h3, h4, h5, h6, h7⟩ := h
  have he : bgn P n (t + 1) ≤ 40 := Nat.le_trans (bgn_le _) hn
  have hlt := bgn_lt (P := P) ht
  have hk := kB_le (P := P) (n := n) (T := T) (M := M) (tc := tc) (t := t) h1
  obtain ⟨k, ek⟩ : ∃ k, k = kB P n T M tc t s := ⟨_, rfl⟩
  obtain ⟨A, eA⟩ : ∃ A, A = abB P n T M tc t s k := ⟨_, rfl⟩
  have eP : pk1 P n T M tc t s = (s.1 + k, A.2.1, (fun i => if i < s.1 then s.2.2.1 i else nI (tmB P (bgn P n t) (bgn P n (t + 1)) T M tc (abB P n T M tc t s (i - s.1)))), (fun i => if i < s.1 then s.2.2.2.1 i else nI t), (fun i => if i < s.1 then s.2.2.2.2.1 i else (abB P n T M tc t s (i - s.1 + 1)).1.2.2.2), fun u => if u = t then A.2.2 else s.2.2.2.2.2 u) := by
    rw [eA, ek]; rfl
  have hokA : okFS (bgn P n t) (bgn P n (t + 1)) (3 * k) A.1 := by rw [eA]; exact abN_ok (aB_ok (Nat.le_of_lt hlt)) k
  obtain ⟨f1, f2, f3, f4⟩ : abF P (bgn P n t) s.2.1 A := by rw [eA]; exact abN_F he (Nat.le_of_lt hlt) k (by omega)
  have hA : A.1.1 = bgn P n (t + 1) := by
    have q1 := hokA.2.1
    unfold okB at hok
    rw [← ek, ← eA] at hok
    omega
  obtain ⟨o1, o2, o3, o4, o5⟩ := hokA
  have gA : ∀ i, bgn P n t ≤ i → i < bgn P n (t + 1) → gPL A.2.1 i = A.1.2.2.1 i := fun i q1 q2 => gPL_nI (f2 i q1 (by omega)) (by have := o5 i q1 (by omega); omega)
  have gO : ∀ i, i < bgn P n t → gPL A.2.1 i = gPL s.2.1 i := fun i q1 => by unfold gPL; rw [f3 i (Or.inl q1) (by omega)]
  have hmono : ∀ u, u < t → bgn P n (u + 1) ≤ bgn P n t := by
    intro u hu
    have key : ∀ v, u + 1 + v ≤ nb P n n → bgn P n (u + 1) ≤ bgn P n (u + 1 + v) := by
      intro v
      induction v with
      | zero => intro _; exact Nat.le_refl _
      | succ v ih =>
        intro hv
        have q1 := ih (by omega)
        have q2 := bgn_lt (P := P) (n := n) (t := u + 1 + v) (by omega)
        have q3 : u + 1 + v + 1 = u + 1 + (v + 1) := by omega
        rw [q3] at q2
        omega
    have := key (t - (u + 1)) (by omega)
    rw [show u + 1 + (t - (u + 1)) = t by omega] at this
    exact this
  rw [eP]
  refine ⟨by rw [ek]; exact hk, fun i hi => ?_, fun u hu x x1 x2 => ?_, fun u hu => ?_, ?_, fun i hi => ?_, fun u hu => ?_⟩
  · show A.2.1 i 2 = nI (gPL A.2.1 i) ∧ gPL A.2.1 i ≤ 180
    by_cases c : i < bgn P n t
    · rw [gO i c, f3 i (Or.inl c) (by omega)]
      exact h2 i c
    · rw [gA i (by omega) hi]
      refine ⟨f2 i (by omega) (by omega), ?_⟩
      have := o5 i (by omega) (by omega)
      omega
  · show rdy P (bgn P n u) x (gPL A.2.1 x) (gPL A.2.1) ∧ ∀ i, bgn P n u ≤ i → i ≤ x → gPL A.2.1 i ≤ gPL A.2.1 x
    by_cases c : u = t
    · subst c
      rw [gA x x1 x2]
      refine ⟨rdy_c (fun i q1 q2 => gA i q1 (by omega)) (f1 x x1 (by omega)), fun i q1 q2 => ?_⟩
      rw [gA i q1 (by omega)]
      exact o4 i x q1 q2 (by omega)
    · have hm := hmono u (by omega)
      obtain ⟨z1, z2⟩ := h3 u (by omega) x x1 x2
      rw [gO x (by omega)]
      refine ⟨rdy_c (fun i q1 q2 => gO i (by omega)) z1, fun i q1 q2 => ?_⟩
      rw [gO i (by omega)]
      exact z2 i q1 q2
  · show (if u = t then A.2.2 else s.2.2.2.2.2 u) = mxN P (gPL A.2.1) (bgn P n u) (bgn P n (u + 1) - bgn P n u)
    by_cases c : u = t
    · subst c
      rw [if_pos rfl, f4, hA]
      exact (mxN_c _ (fun i q1 q2 => gA i q1 (by omega))).symm
    · have hm := hmono u (by omega)
      rw [if_neg c, h4 u (by omega)]
      exact (mxN_c _ (fun i q1 q2 => gO i (by omega))).symm
  · show flS (fun i => if i < s.1 then s.2.2.2.2.1 i else (abB P n T M tc t s (i - s.1 + 1)).1.2.2.2) (s.1 + k) = bgn P n (t + 1)
    have q1 := fl_blk (P := P) (b := bgn P n t) (e := bgn P n (t + 1)) (T := T) (M := M) (tc := tc) (c0 := s.1) (a := aB (bgn P n t) s.2.1) he k (fun i => if i < s.1 then s.2.2.2.2.1 i else (abB P n T M tc t s (i - s.1 + 1)).1.2.2.2) (fun m hm => by
      show (if s.1 + m < s.1 then s.2.2.2.2.1 (s.1 + m) else (abB P n T M tc t s (s.1 + m - s.1 + 1)).1.2.2.2) = _
      rw [if_neg (by omega), Nat.add_sub_cancel_left]
      rfl)
    have q2 : (abN P (bgn P n t) (bgn P n (t + 1)) T M tc s.1 (aB (bgn P n t) s.2.1) k).1.1 = bgn P n (t + 1) := by rw [eA] at hA; exact hA
    have q3 : (aB (bgn P n t) s.2.1).1.1 = bgn P n t := rfl
    have q4 : flS (fun i => if i < s.1 then s.2.2.2.2.1 i else (abB P n T M tc t s (i - s.1 + 1)).1.2.2.2) s.1 = flS s.2.2.2.2.1 s.1 := flS_c s.1 (fun i hi j hj => by
      show (if i < s.1 then s.2.2.2.2.1 i else (abB P n T M tc t s (i - s.1 + 1)).1.2.2.2) j = _
      rw [if_pos hi])
    rw [q2, q3, q4, h5] at q1
    omega
  · change i < s.1 + k at hi
    refine ⟨?_, ?_⟩
    · show ∃ u, u < t + 1 ∧ (if i < s.1 then s.2.2.2.1 i else nI t) = nI u
      by_cases c : i < s.1
      · obtain ⟨u, u1, u2⟩ := (h6 i c).1
        exact ⟨u, by omega, by rw [if_pos c]; exact u2⟩
      · exact ⟨t, Nat.lt_succ_self t, if_neg c⟩
    · intro j hj
      show (if i < s.1 then s.2.2.2.2.1 i else (abB P n T M tc t s (i - s.1 + 1)).1.2.2.2) j = mI 4 ∨ ∃ x, x < 40 ∧ (if i < s.1 then s.2.2.2.2.1 i else (abB P n T M tc t s (i - s.1 + 1)).1.2.2.2) j = nI x
      by_cases c : i < s.1
      · rw [if_pos c]; exact (h6 i c).2 j hj
      · rw [if_neg c]
        rcases fs_slV (P := P) (ty := T (tmB P (bgn P n t) (bgn P n (t + 1)) T M tc (abB P n T M tc t s (i - s.1)))) (m := M (tmB P (bgn P n t) (bgn P n (t + 1)) T M tc (abB P n T M tc t s (i - s.1)))) he (B := 3 * (i - s.1)) (by omega) (abN_ok (P := P) (T := T) (M := M) (tc := tc) (c0 := s.1) (aB_ok (PL := s.2.1) (Nat.le_of_lt hlt)) (i - s.1)) j hj with w | ⟨x, x1, x2, _⟩
        · exact Or.inl w
        · exact Or.inr ⟨x, x1, x2⟩
  · show ∃ i, i < s.1 + k ∧ (if i < s.1 then s.2.2.2.1 i else nI t) = nI u
    by_cases c : u = t
    · subst c
      have k0 : 0 < k := by
        by_cases z : k = 0
        · rw [z] at eA
          have : A.1.1 = bgn P n u := by rw [eA]; rfl
          omega
        · omega
      exact ⟨s.1, by omega, if_neg (by omega)⟩
    · obtain ⟨i, i1, i2⟩ := h7 u (by omega)
      exact ⟨i, by omega, by rw [if_pos i1]; exact i2⟩
theorem pkF_N {PL : gP} (hn : n ≤ 40) : ∀ t, t ≤ nb P n n → pkOK P n T M tc PL t → pkF P n t (pkN P n T M tc PL t) := by
  intro t
  induction t with
  | zero =>
    intro _ _
    have h0 : bgn P n 0 = 0 := by
      by_cases z : 0 < n
      · exact bgn_0 z
      · have := bgn_le (P := P) (n := n) 0
        omega
    exact ⟨by show (0 : Nat) ≤ 60; omega, fun i hi => absurd hi (by omega), fun u hu => absurd hu (Nat.not_lt_zero u), fun u hu => absurd hu (Nat.not_lt_zero u), h0.symm, fun i hi => absurd hi (Nat.not_lt_zero i), fun u hu => absurd hu (Nat.not_lt_zero u)⟩
  | succ t ih =>
    intro h1 h2
    exact pkF_1 hn (by omega) (ih (by omega) (fun u hu => h2 u (by omega))) (h2 t (Nat.lt_succ_self t))
end
