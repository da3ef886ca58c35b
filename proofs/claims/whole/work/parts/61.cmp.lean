/-! RUNBUNDLES AND COMPARE -/
section
variable {σ : sg} {P : gP} {s : MS} {n : Nat} {G : Nat → Nat} {z : Prop}
theorem ex_add {a : Nat × MS} (j k : Nat) : exN P n (exN P n a j) k = exN P n a (j + k) := by
  induction k with
  | zero => rfl
  | succ k ih =>
    show ex1 P n (exN P n (exN P n a j) k) = ex1 P n (exN P n a (j + k))
    rw [ih]
theorem ex_const {a : Nat × MS} {k : Nat} (h : ¬ (exN P n a k).1 < n) (j : Nat) : exN P n a (k + j) = exN P n a k := by
  induction j with
  | zero => rfl
  | succ j ih =>
    show ex1 P n (exN P n a (k + j)) = _
    rw [ih]
    exact if_neg h
theorem ex_seq {b L : Nat} (hb : b + L ≤ n) (hx : ∀ i, b ≤ i → i + 1 < b + L → pop P i < 10) : ∀ m, m < L → exN P n (b, s) m = (b + m, sqN P s b m) := by
  intro m
  induction m with
  | zero => intro _; rfl
  | succ m ih =>
    intro hm
    show ex1 P n (exN P n (b, s) m) = _
    rw [ih (by omega)]
    unfold ex1
    rw [if_pos (show b + m < n by omega)]
    show (suc P n (sqN P s b m) (b + m), wr (sqN P s b m) (pw P (sqN P s b m) (b + m)) (val P (sqN P s b m) (b + m))) = _
    rw [suc_n (hx (b + m) (by omega) (by omega))]
    rfl
theorem ex_blk {b L : Nat} (hL : 0 < L) (hb : b + L ≤ n) (hx : ∀ i, b ≤ i → i + 1 < b + L → pop P i < 10) : exN P n (b, s) L = (suc P n (sqN P s b (L - 1)) (b + L - 1), sqN P s b L) := by
  obtain ⟨m, rfl⟩ : ∃ m, L = m + 1 := ⟨L - 1, by omega⟩
  show ex1 P n (exN P n (b, s) m) = _
  rw [ex_seq hb hx m (Nat.lt_succ_self m)]
  unfold ex1
  rw [if_pos (show b + m < n by omega)]
  rfl
theorem suc_beg (hc : cmpl P n) {u : Nat} (hu : u < nb P n n) {t : MS} (h : suc P n t (bgn P n u + blL P n u - 1) < n) : bgn P n (blU P n (suc P n t (bgn P n u + blL P n u - 1))) = suc P n t (bgn P n u + blL P n u - 1) := by
  have hlt := bgn_lt (P := P) hu
  have hle := bgn_le (P := P) (n := n) (u + 1)
  refine beg_bgn h ?_
  obtain ⟨i, hi⟩ : ∃ i, i = bgn P n u + blL P n u - 1 := ⟨_, rfl⟩
  have hi1 : i + 1 = bgn P n (u + 1) := by unfold blL at hi; omega
  rw [← hi] at h ⊢
  unfold suc at h ⊢
  by_cases c12 : pop P i = 12
  · rw [if_pos c12] at h; omega
  · rw [if_neg c12] at h ⊢
    by_cases cj : pop P i = 10 ∨ (pop P i = 11 ∧ t (pb P i) ≠ 0)
    · rw [if_pos cj] at h ⊢
      exact Or.inr (Or.inr ⟨i, by omega, cj.elim Or.inl (fun w => Or.inr w.1), rfl⟩)
    · rw [if_neg cj] at h ⊢
      rw [hi1] at h ⊢
      by_cases q : u + 1 < nb P n n
      · exact (bgn_at q).2.2
      · rw [bgn_out (t := u + 1) (by omega)] at h
        omega
theorem bx_ex (hc : cmpl P n) : ∀ j, (∀ i, i < j → (bxN P n G s i).1 < n) → (∃ m, j ≤ m ∧ exN P n (0, s) m = ((bxN P n G s j).1, (bxN P n G s j).2.1)) ∧ ((bxN P n G s j).1 < n → bgn P n (blU P n (bxN P n G s j).1) = (bxN P n G s j).1) := by
  intro j
  induction j with
  | zero => intro _; exact ⟨⟨0, Nat.le_refl 0, rfl⟩, fun h => beg_bgn h (Or.inl rfl)⟩
  | succ j ih =>
    intro h
    obtain ⟨⟨m, m1, m2⟩, h2⟩ := ih (fun i hi => h i (by omega))
    have hj := h j (Nat.lt_succ_self j)
    have hb := h2 hj
    obtain ⟨A, hA⟩ : ∃ A, A = bxN P n G s j := ⟨_, rfl⟩
    have eA : bxN P n G s (j + 1) = bx1 P n G A := by rw [hA]; rfl
    rw [← hA] at m2 hj hb
    obtain ⟨l1, l2, l3, l4, l5, l6⟩ := bx_last (P := P) hj
    have e1 : bx1 P n G A = (suc P n (sqN P A.2.1 (bgn P n (blU P n A.1)) (blL P n (blU P n A.1) - 1)) (bgn P n (blU P n A.1) + blL P n (blU P n A.1) - 1), sqN P A.2.1 (bgn P n (blU P n A.1)) (blL P n (blU P n A.1)), A.2.2 + mxN P G (bgn P n (blU P n A.1)) (blL P n (blU P n A.1))) := if_pos hj
    have hlt := bgn_lt (P := P) l1
    rw [eA, e1]
    refine ⟨⟨m + blL P n (blU P n A.1), by omega, ?_⟩, fun q => suc_beg hc l1 q⟩
    rw [← ex_add, m2]
    have := ex_blk (P := P) (n := n) (s := A.2.1) (b := bgn P n (blU P n A.1)) l3 l6 (fun i q1 q2 => blk_ex l1 q1 (by unfold blL at q2; omega))
    rw [hb] at this ⊢
    exact this
/-- the packing ends with the program, in no more blocks than steps -/
theorem bx_end (hc : cmpl P n) {m k : Nat} (he : exE P n (0, s) m k) (hs : ¬ (exN P n (0, s) k).1 < n) : ∃ j, j ≤ k ∧ (∀ i, i < j → (bxN P n G s i).1 < n) ∧ ¬ (bxN P n G s j).1 < n ∧ (bxN P n G s j).2.1 = (exN P n (0, s) k).2 := by
  have key : ∀ (Q : Nat → Prop) (m : Nat), Q m → ∃ k, k ≤ m ∧ (∀ j, j < k → ¬ Q j) ∧ Q k := fun Q m => by
    induction m using Nat.strongRecOn with
    | ind m ih =>
      intro hm
      by_cases q : ∃ j, j < m ∧ Q j
      · obtain ⟨j, j1, j2⟩ := q
        obtain ⟨k, k1, k2, k3⟩ := ih j j1 j2
        exact ⟨k, by omega, k2, k3⟩
      · exact ⟨m, Nat.le_refl m, fun j hj hq => q ⟨j, hj, hq⟩, hm⟩
  have ex : ∃ i, i ≤ k ∧ ¬ (bxN P n G s i).1 < n := by
    by_cases q : ∃ i, i ≤ k ∧ ¬ (bxN P n G s i).1 < n
    · exact q
    · have hall : ∀ i, i ≤ k → (bxN P n G s i).1 < n := fun i hi => by
        by_cases w : (bxN P n G s i).1 < n
        · exact w
        · exact absurd ⟨i, hi, w⟩ q
      obtain ⟨⟨mk, k1, k2⟩, _⟩ := bx_ex (G := G) (s := s) hc k (fun i hi => hall i (by omega))
      have h1 := ex_const hs (mk - k)
      rw [show k + (mk - k) = mk by omega, k2] at h1
      have h2 := hall k (Nat.le_refl k)
      rw [← h1] at hs
      exact absurd h2 hs
  obtain ⟨i, i1, i2⟩ := ex
  obtain ⟨j, j1, j2, j3⟩ := key (fun i => ¬ (bxN P n G s i).1 < n) i i2
  have hlt : ∀ i, i < j → (bxN P n G s i).1 < n := fun i hi => Classical.not_not.mp (j2 i hi)
  obtain ⟨⟨mj, k1, k2⟩, _⟩ := bx_ex (G := G) (s := s) hc j hlt
  refine ⟨j, by omega, hlt, j3, ?_⟩
  by_cases q : mj < k
  · have := he.2.1 mj q
    rw [k2] at this
    exact absurd this j3
  · have h1 := ex_const hs (mj - k)
    rw [show k + (mj - k) = mj by omega, k2] at h1
    rw [← h1]
/-- what a packing gives its runs -/
theorem pk_runs (hp : iProg σ P n) (hb : iBlk σ P n) (hc : cmpl P n) (hk : iPk σ P n) : ∃ G : Nat → Nat, rnI σ P n G ∧ (∀ i, i < n → σ (687 + i) 2 = nI (G i)) ∧ (∀ i, i < n → G i ≤ 180) ∧ pkG P n G := by
  obtain ⟨c, TM, BL, SL, G, i1, i2, i3, i4, i5, i6, i7, i8⟩ := hk
  refine ⟨G, ⟨hp.1, hp.2.2.2.1, hb.2.1 hc, fun i hi => (i6 i hi).1, fun u hu => i8 u hu⟩, fun i hi => (i6 i hi).2.1, fun i hi => (i6 i hi).2.2, fun u hu x x1 x2 => ?_⟩
  have hlt := bgn_lt (P := P) hu
  exact i7 u hu x x1 (by unfold blL at x2; omega)
def rbD (r k : Nat) : Prop := r = 146 ∨ r = 147 ∨ r = 155 ∨ r = 156 ∨ (r = 157 ∧ (k = 7 ∨ k = 33)) ∨ r = 611 ∨ r = 612 ∨ r = 731 ∨ r = 734 ∨ r = 735 ∨ r = 736
theorem rb_ok (hp : iProg σ P n) (hb : iBlk σ P n) (hm : iMach σ) (hf : iFlg σ z) (hz : z → cmpl P n ∧ iPk σ P n) (x : Int32) : ∃ (v : Int32) (σ1 σ2 : sg), f_X8_runBundles σ x = some (v, σ1) ∧ f_X9_runBundles σ1 x = some (v, σ2) ∧ iMach σ2 ∧ ∀ r k, ¬ rbD r k → σ2 r k = σ r k := by
  obtain ⟨hI, hM, hV, hn1, hn9, hn40⟩ := id hp
  unfold f_X8_runBundles f_X9_runBundles
  have ex : ∀ υ : sg, f_X9_isBetween υ x 0 100 = some (tf (0 ≤ x.toInt ∧ x.toInt < (101 : Nat))) := fun υ => by
    rw [x9_btwt, l_0, l_100, nI_toInt (by decide), nI_toInt (by decide)]
    exact congrArg some (tf_c (by omega))
  by_cases x0 : x.toInt < 0
  · exact ⟨-2, σ, σ, if_pos (show x < 0 by rw [l_0, ltT (by decide)]; exact x0), by rw [ex, Option.bind_some, if_tf, cif_f (by omega)], hm, fun _ _ _ => rfl⟩
  rw [if_neg (show ¬ x < 0 by rw [l_0, ltT (by decide)]; exact x0)]
  by_cases x1 : x.toInt ≤ (100 : Nat)
  · rw [if_pos (show x ≤ 100 by rw [l_100, leT (by decide)]; exact x1)]
    obtain ⟨m, hm3, rfl⟩ := nI_rg (x := x) (n := 101) ⟨by omega, by omega⟩
    by_cases hz0 : ¬ z
    · exact ⟨-5, σ, σ, by rw [if_pos (show σ 75 12 = 0 by rw [hf.1, tf_0]; exact hz0)], by rw [ex, Option.bind_some, if_tf, cif_t (by omega), if_pos (show σ 157 16 = 0 by rw [hf.2, tf_0]; exact hz0)], hm, fun _ _ _ => rfl⟩
    obtain ⟨hc, hk⟩ := hz (Classical.not_not.mp hz0)
    obtain ⟨G, g1, g2, g3, g4⟩ := pk_runs hp hb hc hk
    obtain ⟨σ1, k, e1, e2, e3, e4⟩ := x8_pkrun (o := 145) (s := σ 731) g1 hV hn40 hc g3 g4 (Or.inl rfl) hm (m := m) (by omega)
    obtain ⟨σ2, k', d1, d2, d3, d4, d5, d6⟩ := x9_pkrun (σ := σ1) (s := σ 731) (G := G) (rM_fr hM (fun r q1 q2 => e4 r (by omega) (by omega) (by omega) (by omega))) (by rw [e4 157 (by decide) (by decide) (by decide) (by decide)]; exact hn9) (fun i hi => by rw [e4 (687 + i) (by omega) (by omega) (by omega) (by omega)]; exact g2 i hi) hV hn40 hc g3 g4 (fun k hk => by rw [e4 731 (by decide) (by decide) (by decide) (by decide)]) (m := m) (by omega)
    have ek := bxE_u d3 e2
    subst ek
    refine ⟨_, σ1, σ2, by rw [if_neg (show ¬ σ 75 12 = 0 by rw [hf.1, tf_0]; exact hz0), e1, Option.bind_some], ?_, ⟨fun j hj => ?_, fun j hj => ?_⟩, fun r j h => ?_⟩
    · rw [ex, Option.bind_some, if_tf, cif_t (by omega), e4 157 (by decide) (by decide) (by decide) (by decide), if_neg (show ¬ σ 157 16 = 0 by rw [hf.2, tf_0]; exact hz0), d1, Option.bind_some, if_tf]
      show cif (¬ (bxN P n G (σ 731) k').1 < n) (some (σ2 157 33, σ2)) (some ((-7 : Int32), σ2)) = some (cif ((bxN P n G (σ 731) k').1 < n) (mI 7) (nI (bxN P n G (σ 731) k').2.2), σ2)
      rw [d2]
      by_cases c : (bxN P n G (σ 731) k').1 < n
      · rw [cif_f (fun q => q c), cif_t c]; rfl
      · rw [cif_t c, cif_f c]
    · rw [d5 146 (by decide) (by decide) (by decide) (by decide) (by decide) (by decide) (by decide), d4 j (by omega)]; exact e3.1 j hj
    · rw [d5 147 (by decide) (by decide) (by decide) (by decide) (by decide) (by decide) (by decide), d4 (8 + j) (by omega)]; exact e3.2 j hj
    · unfold rbD at h
      by_cases er : r = 157
      · subst er
        rw [d6 j (by omega) (by omega), e4 157 (by decide) (by decide) (by decide) (by decide)]
      · rw [d5 r er (by omega) (by omega) (by omega) (by omega) (by omega) (by omega), e4 r (by omega) (by omega) (by omega) (by omega)]
  · exact ⟨-2, σ, σ, if_neg (show ¬ x ≤ 100 by rw [l_100, leT (by decide)]; exact x1), by rw [ex, Option.bind_some, if_tf, cif_f (by omega)], hm, fun _ _ _ => rfl⟩
end
