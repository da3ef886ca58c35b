/-! WHERE BLOCKS BEGIN AND END -/
section
variable {P : gP} {n : Nat}
theorem nb_s (m : Nat) : nb P n m ≤ nb P n (m + 1) := by
  by_cases h : begP P n m
  · rw [nb_t h]; exact Nat.le_succ _
  · rw [nb_f h]; exact Nat.le_refl _
theorem nb_mono {m k : Nat} (h : m ≤ k) : nb P n m ≤ nb P n k := by
  induction k with
  | zero => rw [show m = 0 by omega]; exact Nat.le_refl _
  | succ k ih =>
    by_cases e : m = k + 1
    · rw [e]; exact Nat.le_refl _
    · exact Nat.le_trans (ih (by omega)) (nb_s k)
theorem begs_at (d m : Nat) : ∀ t, t < nb P n m → (begs P n m).getD t d < m ∧ nb P n ((begs P n m).getD t d) = t ∧ begP P n ((begs P n m).getD t d) := by
  induction m with
  | zero => intro t h; exact absurd h (by unfold nb begs; exact Nat.not_lt_zero t)
  | succ m ih =>
    intro t ht
    by_cases h : begP P n m
    · rw [nb_t h] at ht
      rw [begs_t h]
      by_cases e : t < nb P n m
      · rw [getD_left e]
        obtain ⟨h1, h2, h3⟩ := ih t e
        exact ⟨by omega, h2, h3⟩
      · have et : t = (begs P n m).length := by unfold nb at ht e; omega
        rw [et, getD_last]
        exact ⟨Nat.lt_succ_self m, rfl, h⟩
    · rw [nb_f h] at ht
      rw [begs_f h]
      obtain ⟨h1, h2, h3⟩ := ih t ht
      exact ⟨by omega, h2, h3⟩
theorem bgn_at {t : Nat} (h : t < nb P n n) : bgn P n t < n ∧ nb P n (bgn P n t) = t ∧ begP P n (bgn P n t) := begs_at n n t h
theorem bgn_out {t : Nat} (h : nb P n n ≤ t) : bgn P n t = n := getD_out h
theorem bgn_le (t : Nat) : bgn P n t ≤ n := by
  by_cases h : t < nb P n n
  · exact Nat.le_of_lt (bgn_at h).1
  · rw [bgn_out (by omega)]; exact Nat.le_refl _
theorem bgn_lt {t : Nat} (h : t < nb P n n) : bgn P n t < bgn P n (t + 1) := by
  obtain ⟨h1, h2, h3⟩ := bgn_at h
  by_cases e : t + 1 < nb P n n
  · obtain ⟨g1, g2, g3⟩ := bgn_at e
    by_cases q : bgn P n (t + 1) ≤ bgn P n t
    · have := nb_mono (P := P) (n := n) q
      omega
    · omega
  · rw [bgn_out (t := t + 1) (by omega)]; exact h1
/-- the instructions of block t -/
theorem blk_of {t i : Nat} (h : t < nb P n n) (h1 : bgn P n t ≤ i) (h2 : i < bgn P n (t + 1)) : nb P n (i + 1) = t + 1 := by
  obtain ⟨b1, b2, b3⟩ := bgn_at h
  have e1 : t + 1 ≤ nb P n (i + 1) := by
    have := nb_mono (P := P) (n := n) (show bgn P n t + 1 ≤ i + 1 by omega)
    rw [nb_t b3, b2] at this
    exact this
  have e2 : nb P n (i + 1) ≤ t + 1 := by
    by_cases e : t + 1 < nb P n n
    · obtain ⟨g1, g2, g3⟩ := bgn_at e
      have := nb_mono (P := P) (n := n) (show i + 1 ≤ bgn P n (t + 1) by omega)
      omega
    · rw [bgn_out (t := t + 1) (by omega)] at h2
      have := nb_mono (P := P) (n := n) (show i + 1 ≤ n by omega)
      omega
  omega
theorem blk_in {i : Nat} (h : i < n) : nb P n (i + 1) - 1 < nb P n n ∧ bgn P n (nb P n (i + 1) - 1) ≤ i ∧ i < bgn P n (nb P n (i + 1) - 1 + 1) := by
  have h1 := nb_one P n i
  have h2 := nb_mono (P := P) (n := n) (show i + 1 ≤ n by omega)
  obtain ⟨t, ht⟩ : ∃ t, nb P n (i + 1) = t + 1 := ⟨nb P n (i + 1) - 1, by omega⟩
  rw [ht, Nat.add_sub_cancel]
  have htn : t < nb P n n := by omega
  refine ⟨htn, ?_, ?_⟩
  · by_cases q : bgn P n t ≤ i
    · exact q
    · have := nb_mono (P := P) (n := n) (show i + 1 ≤ bgn P n t by omega)
      rw [(bgn_at htn).2.1] at this
      omega
  · by_cases q : i < bgn P n (t + 1)
    · exact q
    · by_cases e : t + 1 < nb P n n
      · obtain ⟨g1, g2, g3⟩ := bgn_at e
        have := nb_mono (P := P) (n := n) (show bgn P n (t + 1) + 1 ≤ i + 1 by omega)
        rw [nb_t g3] at this
        omega
      · rw [bgn_out (t := t + 1) (by omega)] at q
        omega
theorem blk_no {t i : Nat} (h : t < nb P n n) (h1 : bgn P n t < i) (h2 : i < bgn P n (t + 1)) : ¬ begP P n i := fun q => by
  have e1 := blk_of h (Nat.le_of_lt h1) h2
  obtain ⟨j, rfl⟩ : ∃ j, i = j + 1 := ⟨i - 1, by omega⟩
  have e2 := blk_of (i := j) h (by omega) (by omega)
  rw [nb_t q] at e1
  omega
/-- exits stand last in their blocks -/
theorem blk_ex {t i : Nat} (h : t < nb P n n) (h1 : bgn P n t ≤ i) (h2 : i + 1 < bgn P n (t + 1)) : pop P i < 10 := by
  by_cases q : 10 ≤ pop P i
  · exact absurd (Or.inr (Or.inl q)) (blk_no (i := i + 1) h (by omega) h2)
  · omega
/-- a place where a block begins is where its block begins -/
theorem beg_bgn {i : Nat} (h : i < n) (hb : begP P n i) : bgn P n (nb P n (i + 1) - 1) = i := by
  obtain ⟨h1, h2, h3⟩ := blk_in (P := P) h
  by_cases q : bgn P n (nb P n (i + 1) - 1) = i
  · exact q
  · exact absurd hb (blk_no h1 (by omega) h3)
theorem bgn_0 (h : 0 < n) : bgn P n 0 = 0 := by
  have := beg_bgn (P := P) h (Or.inl rfl)
  have h1 : nb P n (0 + 1) = 1 := by
    have h2 := nb_one P n 0
    have h3 := nb_le P n (0 + 1)
    omega
  rw [h1] at this
  exact this
theorem nb_pos (h : 0 < n) : 0 < nb P n n := by
  have := blk_in (P := P) (n := n) h
  omega
theorem nb_0 : nb P 0 0 = 0 := rfl
end
/-! WHAT FILLING GUARANTEES -/
def rdyA (P : gP) (b : Nat) (s : FS) : Prop := ∀ x, b ≤ x → x < s.1 → rdy P b x (s.2.2.1 x) s.2.2.1
theorem rdy_c {P : gP} {b nx grp : Nat} {g g' : Nat → Nat} (e : ∀ i, b ≤ i → i < nx → g' i = g i) (h : rdy P b nx grp g) : rdy P b nx grp g' := fun i h1 h2 d hd => by
  rw [e i h1 h2]; exact h i h1 h2 d hd
theorem rdyA_1 {P : gP} {b e : Nat} {ty : Nat → Nat} {m j : Nat} {s : FS} (h : rdyA P b s) : rdyA P b (fs1 P b e ty m j s) := by
  by_cases c : tkP P b e ty j s
  · rw [fs1_t c]
    intro x h1 h2
    have h2' : x < s.1 + 1 := h2
    show rdy P b x (if x = s.1 then s.2.1 else s.2.2.1 x) (fun i => if i = s.1 then s.2.1 else s.2.2.1 i)
    refine rdy_c (g := s.2.2.1) (fun i q1 q2 => if_neg (by omega)) ?_
    by_cases ex : x = s.1
    · rw [if_pos ex, ex]; exact c.2.2
    · rw [if_neg ex]; exact h x h1 (by omega)
  · rw [fs1_f c]
    exact h
theorem rdyA_N {P : gP} {b e : Nat} {ty : Nat → Nat} {m : Nat} (J : Nat) {s : FS} (h : rdyA P b s) : rdyA P b (fsN P b e ty m J s) := by
  induction J with
  | zero => exact h
  | succ J ih => exact rdyA_1 ih
theorem fs_has {P : gP} {b e : Nat} {ty : Nat → Nat} {m : Nat} {s0 : FS} (J : Nat) : ∀ i, s0.1 ≤ i → i < (fsN P b e ty m J s0).1 → ∃ j, j < J ∧ (fsN P b e ty m J s0).2.2.2 j = nI i := by
  induction J with
  | zero => intro i h1 h2; exact absurd h2 (Nat.not_lt.mpr h1)
  | succ J ih =>
    intro i h1 h2
    change i < (fs1 P b e ty m J (fsN P b e ty m J s0)).1 at h2
    show ∃ j, j < J + 1 ∧ (fs1 P b e ty m J (fsN P b e ty m J s0)).2.2.2 j = nI i
    by_cases c : tkP P b e ty J (fsN P b e ty m J s0)
    · rw [fs1_t c] at h2 ⊢
      have h2' : i < (fsN P b e ty m J s0).1 + 1 := h2
      by_cases ei : i = (fsN P b e ty m J s0).1
      · exact ⟨J, Nat.lt_succ_self J, by rw [ei]; exact if_pos rfl⟩
      · obtain ⟨j, q1, q2⟩ := ih i h1 (by omega)
        exact ⟨j, by omega, Eq.trans (if_neg (by omega)) q2⟩
    · rw [fs1_f c] at h2 ⊢
      obtain ⟨j, q1, q2⟩ := ih i h1 h2
      exact ⟨j, by omega, Eq.trans (if_neg (by omega)) q2⟩
theorem plN_o {c J i : Nat} {sl : Nat → Int32} {gg : Nat → Nat} {PL : gP} (hJ : J ≤ 3) (hsl : slV sl gg) (h : ∀ j, j < J → sl j ≠ nI i) : plN c sl gg PL J i = PL i := by
  induction J with
  | zero => rfl
  | succ J ih =>
    show pl1 c J (sl J) gg (plN c sl gg PL J) i = PL i
    unfold pl1
    rcases hsl J (by omega) with q | ⟨x, hx, q, _⟩
    · rw [if_pos q]; exact ih (by omega) (fun j hj => h j (by omega))
    · rw [if_neg (show ¬ sl J = mI 4 by rw [q]; exact mI_ne (by decide) (by decide) (by omega)), q, ixs_nI hx]
      have hne : i ≠ x := fun z => h J (by omega) (by rw [q, z])
      refine Eq.trans (funext fun j => gset_o hne) (ih (by omega) (fun j hj => h j (by omega)))
theorem plN_g {c J i : Nat} {sl : Nat → Int32} {gg : Nat → Nat} {PL : gP} (hJ : J ≤ 3) (hi : i < 40) (hsl : slV sl gg) (h : ∃ j, j < J ∧ sl j = nI i) : plN c sl gg PL J i 2 = nI (gg i) := by
  induction J with
  | zero => obtain ⟨j, hj, _⟩ := h; exact absurd hj (Nat.not_lt_zero j)
  | succ J ih =>
    obtain ⟨j, hj, hji⟩ := h
    show pl1 c J (sl J) gg (plN c sl gg PL J) i 2 = nI (gg i)
    unfold pl1
    rcases hsl J (by omega) with q | ⟨x, hx, q, _⟩
    · rw [if_pos q]
      refine ih (by omega) ⟨j, ?_, hji⟩
      by_cases ej : j = J
      · rw [ej, q] at hji; exact absurd hji.symm (mI_ne (by decide) (by decide) (by omega))
      · omega
    · rw [if_neg (show ¬ sl J = mI 4 by rw [q]; exact mI_ne (by decide) (by decide) (by omega)), q, ixs_nI hx]
      by_cases ex : i = x
      · subst ex
        exact gset_i
      · refine Eq.trans (gset_o ex) (ih (by omega) ⟨j, ?_, hji⟩)
        by_cases ej : j = J
        · rw [ej, q, nI_inj (by omega) (by omega)] at hji; exact absurd hji.symm ex
        · omega
/-- the greatest sum of group and latency -/
def mxN (P : gP) (g : Nat → Nat) (b : Nat) : Nat → Nat
  | 0 => 0
  | m + 1 => max (mxN P g b m) (g (b + m) + latN (pop P (b + m)))
theorem mxN_c {P : gP} {g g' : Nat → Nat} {b : Nat} (m : Nat) (h : ∀ i, b ≤ i → i < b + m → g' i = g i) : mxN P g' b m = mxN P g b m := by
  induction m with
  | zero => rfl
  | succ m ih =>
    show max (mxN P g' b m) (g' (b + m) + latN (pop P (b + m))) = max (mxN P g b m) (g (b + m) + latN (pop P (b + m)))
    rw [ih (fun i h1 h2 => h i h1 (by omega)), h (b + m) (by omega) (by omega)]
theorem mxN_le {P : gP} {g : Nat → Nat} {b B : Nat} (m : Nat) (h : ∀ i, b ≤ i → i < b + m → g i ≤ B) : mxN P g b m ≤ B + 3 := by
  induction m with
  | zero => exact Nat.zero_le _
  | succ m ih =>
    have h1 := ih (fun i h1 h2 => h i h1 (by omega))
    have h2 := h (b + m) (by omega) (by omega)
    have h3 := latN_le (pop P (b + m))
    show max (mxN P g b m) (g (b + m) + latN (pop P (b + m))) ≤ B + 3
    omega
theorem mxN_ge {P : gP} {g : Nat → Nat} {b : Nat} (m : Nat) : ∀ i, b ≤ i → i < b + m → g i + latN (pop P i) ≤ mxN P g b m := by
  induction m with
  | zero => intro i h1 h2; omega
  | succ m ih =>
    intro i h1 h2
    show g i + latN (pop P i) ≤ max (mxN P g b m) (g (b + m) + latN (pop P (b + m)))
    by_cases e : i = b + m
    · rw [e]; omega
    · have := ih i h1 (by omega)
      omega
theorem cyN_mx {P : gP} {b e : Nat} {ty : Nat → Nat} {m : Nat} {s0 : FS} (he : e ≤ 40) (hb : b ≤ s0.1) (J : Nat) : ∀ (sl : Nat → Int32) (gg : Nat → Nat), (∀ j, j < J → sl j = (fsN P b e ty m J s0).2.2.2 j) → (∀ i, b ≤ i → i < (fsN P b e ty m J s0).1 → gg i = (fsN P b e ty m J s0).2.2.1 i) → cyN P sl gg (mxN P s0.2.2.1 b (s0.1 - b)) J = mxN P gg b ((fsN P b e ty m J s0).1 - b) := by
  induction J with
  | zero =>
    intro sl gg h1 h2
    exact (mxN_c _ (fun i q1 q2 => h2 i q1 (by show i < s0.1; omega))).symm
  | succ J ih =>
    intro sl gg h1 h2
    have hle := fsN_le (P := P) (b := b) (e := e) (ty := ty) (m := m) J (s := s0)
    change ∀ j, j < J + 1 → sl j = (fs1 P b e ty m J (fsN P b e ty m J s0)).2.2.2 j at h1
    change ∀ i, b ≤ i → i < (fs1 P b e ty m J (fsN P b e ty m J s0)).1 → gg i = (fs1 P b e ty m J (fsN P b e ty m J s0)).2.2.1 i at h2
    show cy1 P (sl J) gg (cyN P sl gg (mxN P s0.2.2.1 b (s0.1 - b)) J) = mxN P gg b ((fs1 P b e ty m J (fsN P b e ty m J s0)).1 - b)
    by_cases c : tkP P b e ty J (fsN P b e ty m J s0)
    · rw [fs1_t c] at h1 h2 ⊢
      have h1' : ∀ j, j < J → sl j = (fsN P b e ty m J s0).2.2.2 j := fun j hj => Eq.trans (h1 j (by omega)) (if_neg (by omega))
      have h2' : ∀ i, b ≤ i → i < (fsN P b e ty m J s0).1 → gg i = (fsN P b e ty m J s0).2.2.1 i := fun i q1 q2 => Eq.trans (h2 i q1 (Nat.lt_succ_of_lt q2)) (if_neg (by omega))
      rw [ih sl gg h1' h2']
      have hJ : sl J = nI (fsN P b e ty m J s0).1 := Eq.trans (h1 J (Nat.lt_succ_self J)) (if_pos rfl)
      have hlt : (fsN P b e ty m J s0).1 < 40 := Nat.lt_of_lt_of_le c.1 he
      unfold cy1
      rw [if_neg (show ¬ sl J = mI 4 by rw [hJ]; exact mI_ne (by decide) (by decide) (by omega)), hJ, ixs_nI hlt]
      show _ = mxN P gg b ((fsN P b e ty m J s0).1 + 1 - b)
      rw [show (fsN P b e ty m J s0).1 + 1 - b = ((fsN P b e ty m J s0).1 - b) + 1 by omega]
      show _ = max (mxN P gg b ((fsN P b e ty m J s0).1 - b)) (gg (b + ((fsN P b e ty m J s0).1 - b)) + latN (pop P (b + ((fsN P b e ty m J s0).1 - b))))
      rw [show b + ((fsN P b e ty m J s0).1 - b) = (fsN P b e ty m J s0).1 by omega]
    · rw [fs1_f c] at h1 h2 ⊢
      have h1' : ∀ j, j < J → sl j = (fsN P b e ty m J s0).2.2.2 j := fun j hj => Eq.trans (h1 j (by omega)) (if_neg (by omega))
      rw [ih sl gg h1' h2]
      have hJ : sl J = mI 4 := Eq.trans (h1 J (Nat.lt_succ_self J)) (if_pos rfl)
      unfold cy1
      rw [if_pos hJ]
/-- how many slots are not empty -/
def flN (sl : Nat → Int32) : Nat → Nat
  | 0 => 0
  | j + 1 => if sl j = mI 4 then flN sl j else flN sl j + 1
theorem flN_c {sl sl' : Nat → Int32} (J : Nat) (h : ∀ j, j < J → sl j = sl' j) : flN sl J = flN sl' J := by
  induction J with
  | zero => rfl
  | succ J ih =>
    show (if sl J = mI 4 then flN sl J else flN sl J + 1) = (if sl' J = mI 4 then flN sl' J else flN sl' J + 1)
    rw [h J (Nat.lt_succ_self J), ih (fun j hj => h j (by omega))]
theorem fl_fs {P : gP} {b e : Nat} {ty : Nat → Nat} {m : Nat} {s0 : FS} (he : e ≤ 40) (J : Nat) : s0.1 + flN (fsN P b e ty m J s0).2.2.2 J = (fsN P b e ty m J s0).1 := by
  induction J with
  | zero => rfl
  | succ J ih =>
    show s0.1 + flN (fs1 P b e ty m J (fsN P b e ty m J s0)).2.2.2 (J + 1) = (fs1 P b e ty m J (fsN P b e ty m J s0)).1
    by_cases c : tkP P b e ty J (fsN P b e ty m J s0)
    · rw [fs1_t c]
      have hlt : (fsN P b e ty m J s0).1 < 40 := Nat.lt_of_lt_of_le c.1 he
      show s0.1 + (if (if J = J then nI (fsN P b e ty m J s0).1 else (fsN P b e ty m J s0).2.2.2 J) = mI 4 then flN (fun k => if k = J then nI (fsN P b e ty m J s0).1 else (fsN P b e ty m J s0).2.2.2 k) J else flN (fun k => if k = J then nI (fsN P b e ty m J s0).1 else (fsN P b e ty m J s0).2.2.2 k) J + 1) = (fsN P b e ty m J s0).1 + 1
      rw [if_pos (show J = J from rfl), if_neg (show ¬ nI (fsN P b e ty m J s0).1 = mI 4 from mI_ne (by decide) (by decide) (by omega)), flN_c J (sl' := (fsN P b e ty m J s0).2.2.2) (fun j hj => if_neg (by omega))]
      omega
    · rw [fs1_f c]
      show s0.1 + (if (if J = J then mI 4 else (fsN P b e ty m J s0).2.2.2 J) = mI 4 then flN (fun k => if k = J then mI 4 else (fsN P b e ty m J s0).2.2.2 k) J else flN (fun k => if k = J then mI 4 else (fsN P b e ty m J s0).2.2.2 k) J + 1) = (fsN P b e ty m J s0).1
      rw [if_pos (show J = J from rfl), if_pos (show mI 4 = mI 4 from rfl), flN_c J (sl' := (fsN P b e ty m J s0).2.2.2) (fun j hj => if_neg (by omega))]
      exact ih
