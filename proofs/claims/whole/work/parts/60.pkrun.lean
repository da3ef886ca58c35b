/-! RUNNING THE PACKING, both sides -/
/-- a run of the packing by blocks: where, with what state, after how many cycles -/
noncomputable def blU (P : gP) (n i : Nat) : Nat := nb P n (i + 1) - 1
section
variable (P : gP) (n : Nat) (G : Nat → Nat)
noncomputable def blL (u : Nat) : Nat := bgn P n (u + 1) - bgn P n u
noncomputable def bx1 (a : Nat × MS × Nat) : Nat × MS × Nat := if a.1 < n then (suc P n (sqN P a.2.1 (bgn P n (blU P n a.1)) (blL P n (blU P n a.1) - 1)) (bgn P n (blU P n a.1) + blL P n (blU P n a.1) - 1), sqN P a.2.1 (bgn P n (blU P n a.1)) (blL P n (blU P n a.1)), a.2.2 + mxN P G (bgn P n (blU P n a.1)) (blL P n (blU P n a.1))) else a
noncomputable def bxN (s : MS) : Nat → Nat × MS × Nat
  | 0 => (0, s, 0)
  | k + 1 => bx1 P n G (bxN s k)
def bxE (s : MS) (m k : Nat) : Prop := k ≤ m ∧ (∀ j, j < k → (bxN P n G s j).1 < n) ∧ (k = m ∨ ¬ (bxN P n G s k).1 < n)
/-- what a packing keeps, for its runs -/
def pkG : Prop := ∀ u, u < nb P n n → blkOK P (bgn P n u) (blL P n u) G
end
section
variable {σ : sg} {P : gP} {s : MS} {n o : Nat} {G : Nat → Nat}
theorem bxE_u {m k l : Nat} (h : bxE P n G s m k) (g : bxE P n G s m l) : k = l := by
  obtain ⟨h1, h2, h3⟩ := h
  obtain ⟨g1, g2, g3⟩ := g
  rcases Nat.lt_trichotomy k l with q | q | q
  · rcases h3 with w | w
    · omega
    · exact absurd (g2 k q) w
  · exact q
  · rcases g3 with w | w
    · omega
    · exact absurd (h2 l q) w
theorem x9_eblk {u : Nat} (hM : rM σ P) (hV : pVs P) (hn9 : σ 157 0 = nI n) (hn : n ≤ 40) (hBK : BKM σ P n) (hu : u < nb P n n) (hB : blkOK P (bgn P n u) (blL P n u) G) (hG : grM G (bgn P n u) (blL P n u) σ) (hm : mR σ s) : ∃ σ', f_X9_executeBlock σ (nI u) = some (nI (suc P n (sqN P s (bgn P n u) (blL P n u - 1)) (bgn P n u + blL P n u - 1)), σ') ∧ mR σ' (sqN P s (bgn P n u) (blL P n u)) ∧ ∀ r, r ≠ 731 → r ≠ 734 → r ≠ 735 → r ≠ 736 → σ' r = σ r := by
  have hlt := bgn_lt (P := P) hu
  have hle := bgn_le (P := P) (n := n) (u + 1)
  have hnb := nb_le P n n
  obtain ⟨b, eb⟩ : ∃ b, b = bgn P n u := ⟨_, rfl⟩
  obtain ⟨L, eL⟩ : ∃ L, L = blL P n u := ⟨_, rfl⟩
  have ebL : bgn P n (u + 1) = b + L := by unfold blL at eL; omega
  have hL : 0 < L := by omega
  have h40 : b + L ≤ 40 := by omega
  obtain ⟨k1, k2, k3⟩ := hBK
  rw [← eL, ← eb] at hB hG
  rw [← eL, ← eb]
  have hmx : mxN P G b L ≤ 183 := mxN_le L (fun i q1 q2 => (hG i q1 q2).2)
  have hx : ∀ i, b ≤ i → i + 1 < b + L → pop P i < 10 := fun i q1 q2 => blk_ex hu (by omega) (by omega)
  have hcyc : f_X9_cyclesOf σ (nI u) = some (nI (mxN P G b L)) := by
    have := x9_cyc (σ := σ) (u := u) (b := b) (e := b + L) (G := G) hM hV (by rw [k3 u (by omega), eb]) (by rw [k3 (u + 1) (by omega), ebL]) (by omega) (by omega) h40 hG
    rw [show b + L - b = L by omega] at this
    exact this
  unfold f_X9_executeBlock L_X9_executeBlock_29
  rw [ld_612 (by omega), Option.bind_some, k3 u (by omega), l_1, nI_add, ld_612 (by omega), Option.bind_some, k3 (u + 1) (by omega), ebL, ← eb, hcyc, Option.bind_some, l_0]
  refine Exists.elim (loop_c3 (F := fun x y τ => B_X9_executeBlock_29 (nI b) (nI (b + L)) (nI (mxN P G b L)) x y τ) (mxN P G b L + 1) (fun g x y τ => x = goV P n s b L (G (b + L - 1) < g) ∧ y = nI g ∧ mR τ (nN P s b G g L) ∧ (∀ m, m < L → G (b + m) < g → awM P s b G τ m) ∧ ∀ r, r ≠ 731 → r ≠ 734 → r ≠ 735 → r ≠ 736 → τ r = σ r) (fun z => z.1 = nI (suc P n (sqN P s b (L - 1)) (b + L - 1)) ∧ mR z.2 (sqN P s b L) ∧ ∀ r, r ≠ 731 → r ≠ 734 → r ≠ 735 → r ≠ 736 → z.2 r = σ r) (fun g x y τ hk hR => ?_) (fu := gN) (gN_gt (by omega)) (a := nI (b + L)) (b := nI 0) (c := σ) ⟨(cif_f (fun q => absurd q.2 (Nat.not_lt_zero _))).symm, rfl, by rw [nN_beg]; exact hm, fun m _ q => absurd q (Nat.not_lt_zero _), fun _ _ _ _ _ => rfl⟩) (fun z hz => ⟨z.2, by rw [← hz.2.1]; exact hz.1, hz.2.2⟩)
  obtain ⟨rfl, rfl, r1, r2, hfr⟩ := hR
  unfold B_X9_executeBlock_29
  have hMτ : rM τ P := rM_fr hM (fun r q1 q2 => hfr r (by omega) (by omega) (by omega) (by omega))
  have hGτ : grM G b L τ := fun i q1 q2 => by rw [hfr (687 + i) (by omega) (by omega) (by omega) (by omega)]; exact hG i q1 q2
  have hn0 : τ 157 0 = nI n := by rw [hfr 157 (by decide) (by decide) (by decide) (by decide)]; exact hn9
  by_cases ge : g = mxN P G b L + 1
  · rw [if_pos (show nI (mxN P G b L) < nI g by rw [nI_lti (by omega) (by omega)]; omega)]
    have hall : ∀ i, b ≤ i → i < b + L → G i + latN (pop P i) ≤ mxN P G b L := mxN_ge L
    have hend : nN P s b G g L = sqN P s b L := nN_end L (fun m hm => by
      have := hall (b + m) (by omega) (by omega)
      unfold due
      omega)
    have hgo : goV P n s b L (G (b + L - 1) < g) = nI (suc P n (sqN P s b (L - 1)) (b + L - 1)) := by
      have q := hall (b + L - 1) (by omega) (by omega)
      unfold goV
      by_cases c : 10 ≤ pop P (b + L - 1)
      · rw [cif_t ⟨c, by omega⟩]
      · rw [cif_f (fun w => c w.1), suc_n (by omega), show b + L - 1 + 1 = b + L by omega]
    exact Or.inr ⟨_, rfl, hgo, by rw [← hend]; exact r1, hfr⟩
  · rw [if_neg (show ¬ nI (mxN P G b L) < nI g by rw [nI_lti (by omega) (by omega)]; omega)]
    obtain ⟨τ1, d1, d2, d3⟩ := x9_del (x4 := goV P n s b L (G (b + L - 1) < g)) (x5 := nI (mxN P G b L)) hV h40 hB (by omega) r1 r2 hGτ
    obtain ⟨τ2, w1, w2, w3, w4⟩ := x9_rdg (x5 := nI (mxN P G b L)) (n := n) (s := s) (rM_fr hMτ (fun r q1 q2 => d3 r (by omega))) hV h40 hL (by rw [d3 157 (by decide)]; exact hn0) hB hx (g := g) (by omega) d2 (fun m q1 q2 => by
      unfold awM
      rw [d3 734 (by decide), d3 735 (by decide), d3 736 (by decide)]
      exact r2 m q1 q2) (fun i q1 q2 => by rw [d3 (687 + i) (by omega)]; exact hGτ i q1 q2)
    rw [d1, w1]
    exact Or.inl ⟨_, _, τ2, rfl, by omega, rfl, rfl, w2, w3, fun r q1 q2 q3 q4 => by rw [w4 r q2 q3 q4, d3 r q1, hfr r q1 q2 q3 q4]⟩
theorem suc_lt (hc : cmpl P n) {i : Nat} (hi : i < n) : suc P n s i ≤ n := by
  unfold suc
  by_cases c12 : pop P i = 12
  · rw [if_pos c12]; exact Nat.le_refl _
  · rw [if_neg c12]
    by_cases cj : pop P i = 10 ∨ (pop P i = 11 ∧ s (pb P i) ≠ 0)
    · rw [if_pos cj]
      have := hc i hi (cj.elim Or.inl (fun w => Or.inr w.1))
      omega
    · rw [if_neg cj]; omega
theorem bx_last {i : Nat} (hi : i < n) : blU P n i < nb P n n ∧ bgn P n (blU P n i) + blL P n (blU P n i) - 1 < n ∧ 0 < blL P n (blU P n i) ∧ bgn P n (blU P n i) ≤ i ∧ i < bgn P n (blU P n i) + blL P n (blU P n i) ∧ bgn P n (blU P n i) + blL P n (blU P n i) ≤ n := by
  obtain ⟨h1, h2, h3⟩ := blk_in (P := P) hi
  have h4 := bgn_le (P := P) (n := n) (blU P n i + 1)
  have h5 := bgn_lt (P := P) h1
  unfold blL blU at *
  omega
theorem bxN_le (hc : cmpl P n) (hg : ∀ i, i < n → G i ≤ 180) : ∀ k, (bxN P n G s k).1 ≤ n ∧ (bxN P n G s k).2.2 ≤ 183 * k := by
  intro k
  induction k with
  | zero => exact ⟨Nat.zero_le _, Nat.le_refl _⟩
  | succ k ih =>
    obtain ⟨i1, i2⟩ := ih
    show (bx1 P n G (bxN P n G s k)).1 ≤ n ∧ (bx1 P n G (bxN P n G s k)).2.2 ≤ 183 * (k + 1)
    unfold bx1
    by_cases c : (bxN P n G s k).1 < n
    · obtain ⟨l1, l2, l3, l4, l5, l6⟩ := bx_last (P := P) c
      rw [if_pos c]
      refine ⟨suc_lt hc l2, ?_⟩
      have := mxN_le (P := P) (g := G) (b := bgn P n (blU P n (bxN P n G s k).1)) (B := 180) (blL P n (blU P n (bxN P n G s k).1)) (fun i q1 q2 => hg i (by omega))
      show (bxN P n G s k).2.2 + _ ≤ _
      omega
    · rw [if_neg c]
      exact ⟨i1, by omega⟩
/-- the facts of a packing that its runs use: of the class, of the reference -/
def rnI (σ : sg) (P : gP) (n : Nat) (G : Nat → Nat) : Prop := rI σ P ∧ σ 1 1 = nI n ∧ BKI σ P n ∧ (∀ i, i < n → σ 141 i = nI (G i)) ∧ ∀ u, u < nb P n n → σ 142 u = nI (mxN P G (bgn P n u) (blL P n u))
theorem rnI_fr {τ : sg} (h : rnI σ P n G) (e : ∀ r, r < 143 → τ r = σ r) : rnI τ P n G := by
  obtain ⟨h1, h2, ⟨k1, k2, k3⟩, h4, h5⟩ := h
  refine ⟨rI_fr h1 (fun r q1 q2 => e r (by omega)), by rw [e 1 (by decide)]; exact h2, ⟨by rw [e 57 (by decide)]; exact k1, fun i hi => by rw [e 59 (by decide)]; exact k2 i hi, fun t ht => by rw [e 58 (by decide)]; exact k3 t ht⟩, fun i hi => by rw [e 141 (by decide)]; exact h4 i hi, fun u hu => by rw [e 142 (by decide)]; exact h5 u hu⟩
theorem x8_pkrun (hr : rnI σ P n G) (hV : pVs P) (hn : n ≤ 40) (hc : cmpl P n) (hg : ∀ i, i < n → G i ≤ 180) (hpk : pkG P n G) (ho : oMa o) (hm : mS σ o s) {m : Nat} (hm3 : m ≤ 300) : ∃ (σ' : sg) (k : Nat), f_X8_executePacking σ o (nI m) = some (cif ((bxN P n G s k).1 < n) (mI 7) (nI (bxN P n G s k).2.2), σ') ∧ bxE P n G s m k ∧ mS σ' o (bxN P n G s k).2.1 ∧ ∀ r, r ≠ o + 1 → r ≠ o + 2 → r ≠ 155 → r ≠ 156 → σ' r = σ r := by
  have hor : oMa o → o = 145 ∨ o = 148 ∨ o = 151 := id
  have ho3 := hor ho
  have hnb := nb_le P n n
  unfold f_X8_executePacking L_X8_executePacking_8
  refine Exists.elim (loop_c4 (F := B_X8_executePacking_8 o (nI m)) m (fun k x y z τ => atB P n x (bxN P n G s k).1 ∧ y = nI (bxN P n G s k).2.2 ∧ z = nI k ∧ (∀ j, j < k → (bxN P n G s j).1 < n) ∧ mS τ o (bxN P n G s k).2.1 ∧ ∀ r, r ≠ o + 1 → r ≠ o + 2 → r ≠ 155 → r ≠ 156 → τ r = σ r) (fun z => ∃ k, z.1 = cif ((bxN P n G s k).1 < n) (mI 7) (nI (bxN P n G s k).2.2) ∧ bxE P n G s m k ∧ mS z.2 o (bxN P n G s k).2.1 ∧ ∀ r, r ≠ o + 1 → r ≠ o + 2 → r ≠ 155 → r ≠ 156 → z.2 r = σ r) (fun k x y z τ hk hR => ?_) (fu := gN) (gN_gt (by omega)) (a := 0) (b := 0) (c := 0) (d := σ) ⟨⟨fun q => ?_, fun q w => ?_⟩, rfl, rfl, fun j hj => absurd hj (Nat.not_lt_zero j), hm, fun _ _ _ _ _ => rfl⟩) (fun z hz => by
    obtain ⟨z1, k, z2, z3, z4, z5⟩ := hz
    exact ⟨z.2, k, by rw [z1, ← z2], z3, z4, z5⟩)
  · obtain ⟨hat, rfl, rfl, hno, hmk, hfr⟩ := hR
    obtain ⟨A, hA⟩ : ∃ A, A = bxN P n G s k := ⟨_, rfl⟩
    have eA : bxN P n G s (k + 1) = bx1 P n G A := by rw [hA]; rfl
    obtain ⟨A1, A2⟩ := bxN_le (s := s) hc hg k
    rw [← hA] at hat hmk A1 A2
    have hrτ : rnI τ P n G := rnI_fr hr (fun r q => hfr r (by omega) (by omega) (by omega) (by omega))
    obtain ⟨r1, r2, ⟨k1, k2, k3⟩, r4, r5⟩ := id hrτ
    have hhas : f_X1_has τ x = some (tf (A.1 < n)) := by
      rw [x1_hasT k1 (by omega)]
      refine congrArg some (tf_c ⟨fun q => ?_, fun q => ?_⟩)
      · by_cases c : A.1 < n
        · exact c
        · exact absurd q (hat.2 c)
      · have := (bx_last (P := P) q).1
        unfold blU at this
        rw [hat.1 q, nI_toInt (by omega)]
        omega
    unfold B_X8_executePacking_8 J_X8_executePacking_55
    rw [hhas, Option.bind_some, if_tf]
    have fin : (cif (A.1 < n) (some ((-7 : Int32), τ)) (some (nI A.2.2, τ)) : Option (Int32 × sg)).bind (fun t => some (Sum.inr (α := Int32 × Int32 × Int32 × sg) t)) = some (.inr (cif (A.1 < n) (mI 7) (nI A.2.2), τ)) := by
      by_cases c : A.1 < n
      · rw [cif_t c, cif_t c]; rfl
      · rw [cif_f c, cif_f c]; rfl
    rw [← hA]
    by_cases km : k = m
    · rw [if_pos (show nI m ≤ nI k by rw [km]; exact (nI_lei (by omega) (by omega)).mpr (Nat.le_refl _))]
      exact Or.inr ⟨_, fin, k, by rw [← hA], ⟨by omega, hno, Or.inl km⟩, by rw [← hA]; exact hmk, hfr⟩
    rw [if_neg (show ¬ nI m ≤ nI k by rw [nI_lei (by omega) (by omega)]; omega), Option.bind_some, if_tf]
    by_cases c : A.1 < n
    · rw [cif_t c]
      obtain ⟨l1, l2, l3, l4, l5, l6⟩ := bx_last (P := P) c
      obtain ⟨u, hu⟩ : ∃ u, u = blU P n A.1 := ⟨_, rfl⟩
      have ex : x = nI u := by rw [hu]; exact hat.1 c
      have e1 : bx1 P n G A = (suc P n (sqN P A.2.1 (bgn P n u) (blL P n u - 1)) (bgn P n u + blL P n u - 1), sqN P A.2.1 (bgn P n u) (blL P n u), A.2.2 + mxN P G (bgn P n u) (blL P n u)) := by
        unfold bx1
        rw [if_pos c, ← hu]
      rw [← hu] at l1 l2 l3 l4 l5 l6
      have hlt := bgn_lt (P := P) l1
      have ebL : bgn P n (u + 1) - 1 = bgn P n u + blL P n u - 1 := by unfold blL; omega
      obtain ⟨v, τ1, w1, w2, w3, w4⟩ := x0_exec (u := u) (s := A.2.1) r1 hV r2 hn hc ⟨k1, k2, k3⟩ l1 (hpk u l1) (fun i q1 q2 => ⟨r4 i (by unfold blL at l6; omega), hg i (by unfold blL at l6; omega)⟩) (r5 u l1) ho hmk
      rw [ex, ld_142 (by omega), Option.bind_some, r5 u l1, w1, Option.bind_some]
      refine Or.inl ⟨v, _, _, τ1, rfl, by omega, ?_, ?_, by rw [l_1, nI_add], fun j hj => ?_, ?_, fun r q1 q2 q3 q4 => by rw [w4 r q1 q2 q3 q4]; exact hfr r q1 q2 q3 q4⟩
      · rw [eA, e1]
        rw [ebL] at w2
        exact w2
      · rw [eA, e1, nI_add]
      · by_cases ej : j = k
        · rw [ej, ← hA]; exact c
        · exact hno j (by omega)
      · rw [eA, e1]; exact w3
    · rw [cif_f c]
      exact Or.inr ⟨_, fin, k, by rw [← hA], ⟨by omega, hno, Or.inr (by rw [← hA]; exact c)⟩, by rw [← hA]; exact hmk, hfr⟩
  · have h1 : nb P n (0 + 1) = 1 := by
      have h2 := nb_one P n 0
      have h3 := nb_le P n (0 + 1)
      omega
    show (0 : Int32) = nI (nb P n (0 + 1) - 1)
    rw [h1]; rfl
  · have h0 : (0 : Int32).toInt = 0 := by decide
    rw [h0] at w
    have : ¬ 0 < n := q
    have : n = 0 := by omega
    subst this
    omega
def rnM (σ : sg) (P : gP) (n : Nat) (G : Nat → Nat) : Prop := rM σ P ∧ σ 157 0 = nI n ∧ BKM σ P n ∧ ∀ i, i < n → σ (687 + i) 2 = nI (G i)
theorem x9_pkrun (hM : rM σ P) (hn9 : σ 157 0 = nI n) (hpl : ∀ i, i < n → σ (687 + i) 2 = nI (G i)) (hV : pVs P) (hn : n ≤ 40) (hc : cmpl P n) (hg : ∀ i, i < n → G i ≤ 180) (hpk : pkG P n G) (hm : mR σ s) {m : Nat} (hm3 : m ≤ 301) : ∃ (σ' : sg) (k : Nat), f_X9_executeBundles σ (nI m) = some (tf (¬ (bxN P n G s k).1 < n), σ') ∧ σ' 157 33 = nI (bxN P n G s k).2.2 ∧ bxE P n G s m k ∧ mR σ' (bxN P n G s k).2.1 ∧ (∀ r, r ≠ 157 → r ≠ 611 → r ≠ 612 → r ≠ 731 → r ≠ 734 → r ≠ 735 → r ≠ 736 → σ' r = σ r) ∧ ∀ j, j ≠ 7 → j ≠ 33 → σ' 157 j = σ 157 j := by
  have hnb := nb_le P n n
  obtain ⟨τ0, q1, q2, q3, qB⟩ := x9_find hM hn9 hn hV
  unfold f_X9_executeBundles L_X9_executeBundles_13
  rw [q1, Option.bind_some, Option.bind_some]
  have fr0 : ∀ r, r ≠ 157 → r ≠ 611 → r ≠ 612 → up τ0 157 33 0 r = σ r := fun r a1 a2 a3 => by rw [up_r a1, q2 r a1 a2 a3]
  obtain ⟨υ, hυ⟩ : ∃ υ, υ = up τ0 157 33 0 := ⟨_, rfl⟩
  have hυk : ∀ j, j ≠ 33 → υ 157 j = τ0 157 j := fun j hj => by rw [hυ, up_k hj]
  have hυr : ∀ r, r ≠ 157 → υ r = τ0 r := fun r hr => by rw [hυ, up_r hr]
  rw [← hυ] at fr0 ⊢
  refine Exists.elim (loop_c3 (F := B_X9_executeBundles_13 (nI m)) m (fun k x y τ => x = nI (bxN P n G s k).1 ∧ y = nI k ∧ τ 157 33 = nI (bxN P n G s k).2.2 ∧ (∀ j, j < k → (bxN P n G s j).1 < n) ∧ mR τ (bxN P n G s k).2.1 ∧ (∀ r, r ≠ 157 → r ≠ 731 → r ≠ 734 → r ≠ 735 → r ≠ 736 → τ r = υ r) ∧ ∀ j, j ≠ 33 → τ 157 j = υ 157 j) (fun z => ∃ k, z.1 = tf (¬ (bxN P n G s k).1 < n) ∧ z.2 157 33 = nI (bxN P n G s k).2.2 ∧ bxE P n G s m k ∧ mR z.2 (bxN P n G s k).2.1 ∧ (∀ r, r ≠ 157 → r ≠ 731 → r ≠ 734 → r ≠ 735 → r ≠ 736 → z.2 r = υ r) ∧ ∀ j, j ≠ 33 → z.2 157 j = υ 157 j) (fun k x y τ hk hR => ?_) (fu := gN) (gN_gt (by omega)) (a := 0) (b := 0) (c := υ) ⟨rfl, rfl, by rw [hυ, up_same]; rfl, fun j hj => absurd hj (Nat.not_lt_zero j), fun j hj => by rw [fr0 731 (by decide) (by decide) (by decide)]; exact hm j hj, fun _ _ _ _ _ _ => rfl, fun _ _ => rfl⟩) (fun z hz => by
    obtain ⟨z1, k, z2, z3, z4, z5, z6, z7⟩ := hz
    exact ⟨z.2, k, by rw [z1, ← z2], z3, z4, z5, fun r a1 a2 a3 a4 a5 a6 a7 => by rw [z6 r a1 a4 a5 a6 a7, fr0 r a1 a2 a3], fun j a1 a2 => by rw [z7 j a2, hυk j a2, q3 j a1]⟩)
  obtain ⟨rfl, rfl, h33, hno, hmk, hfr, hfk⟩ := hR
  obtain ⟨A, hA⟩ : ∃ A, A = bxN P n G s k := ⟨_, rfl⟩
  have eA : bxN P n G s (k + 1) = bx1 P n G A := by rw [hA]; rfl
  obtain ⟨A1, A2⟩ := bxN_le (s := s) hc hg k
  rw [← hA] at hmk A1 A2 h33
  rw [← hA]
  have hn0 : τ 157 0 = nI n := by rw [hfk 0 (by decide), hυk 0 (by decide), q3 0 (by decide)]; exact hn9
  unfold B_X9_executeBundles_13
  have fin : (J_X9_executeBundles_62 (nI A.1) τ).bind (fun t => some (Sum.inr (α := Int32 × Int32 × sg) t)) = some (.inr (tf (¬ A.1 < n), τ)) := by
    unfold J_X9_executeBundles_62
    rw [hn0]
    by_cases c : A.1 < n
    · rw [if_pos (show nI A.1 < nI n by rw [nI_lti (by omega) (by omega)]; exact c), tf_f (fun q => q c)]; rfl
    · rw [if_neg (show ¬ nI A.1 < nI n by rw [nI_lti (by omega) (by omega)]; exact c), tf_t c]; rfl
  by_cases km : k = m
  · rw [if_pos (show nI m ≤ nI k by rw [km]; exact (nI_lei (by omega) (by omega)).mpr (Nat.le_refl _))]
    exact Or.inr ⟨_, fin, k, by rw [← hA], by rw [← hA]; exact h33, ⟨by omega, hno, Or.inl km⟩, by rw [← hA]; exact hmk, hfr, hfk⟩
  rw [if_neg (show ¬ nI m ≤ nI k by rw [nI_lei (by omega) (by omega)]; omega), hn0]
  by_cases c : A.1 < n
  · rw [if_neg (show ¬ nI n ≤ nI A.1 by rw [nI_lei (by omega) (by omega)]; omega)]
    obtain ⟨l1, l2, l3, l4, l5, l6⟩ := bx_last (P := P) c
    obtain ⟨u, hu⟩ : ∃ u, u = blU P n A.1 := ⟨_, rfl⟩
    have e1 : bx1 P n G A = (suc P n (sqN P A.2.1 (bgn P n u) (blL P n u - 1)) (bgn P n u + blL P n u - 1), sqN P A.2.1 (bgn P n u) (blL P n u), A.2.2 + mxN P G (bgn P n u) (blL P n u)) := by
      unfold bx1
      rw [if_pos c, ← hu]
    rw [← hu] at l1 l2 l3 l4 l5 l6
    have hlt := bgn_lt (P := P) l1
    have hM0 : rM υ P := rM_fr hM (fun r a1 a2 => fr0 r (by omega) (by omega) (by omega))
    have hMτ : rM τ P := rM_fr hM0 (fun r a1 a2 => hfr r (by omega) (by omega) (by omega) (by omega) (by omega))
    have hBτ : BKM τ P n := ⟨by rw [hfk 7 (by decide), hυk 7 (by decide)]; exact qB.1, fun i hi => by rw [hfr 611 (by decide) (by decide) (by decide) (by decide) (by decide), hυr 611 (by decide)]; exact qB.2.1 i hi, fun t ht => by rw [hfr 612 (by decide) (by decide) (by decide) (by decide) (by decide), hυr 612 (by decide)]; exact qB.2.2 t ht⟩
    have hGτ : grM G (bgn P n u) (blL P n u) τ := fun i a1 a2 => by
      rw [hfr (687 + i) (by omega) (by omega) (by omega) (by omega) (by omega), fr0 (687 + i) (by omega) (by omega) (by omega)]
      exact ⟨hpl i (by omega), hg i (by omega)⟩
    obtain ⟨τ1, w1, w2, w3⟩ := x9_eblk (u := u) (s := A.2.1) hMτ hV hn0 hn hBτ l1 (hpk u l1) hGτ hmk
    have hcyc : f_X9_cyclesOf τ1 (nI u) = some (nI (mxN P G (bgn P n u) (blL P n u))) := by
      have := x9_cyc (σ := τ1) (u := u) (b := bgn P n u) (e := bgn P n (u + 1)) (G := G) (rM_fr hMτ (fun r a1 a2 => w3 r (by omega) (by omega) (by omega) (by omega))) hV (by rw [w3 612 (by decide) (by decide) (by decide) (by decide)]; exact hBτ.2.2 u (by omega)) (by rw [w3 612 (by decide) (by decide) (by decide) (by decide)]; exact hBτ.2.2 (u + 1) (by omega)) (by omega) (by omega) (by have := bgn_le (P := P) (n := n) (u + 1); omega) (fun i a1 a2 => by
        have := bgn_le (P := P) (n := n) (u + 1)
        rw [w3 (687 + i) (by omega) (by omega) (by omega) (by omega)]
        exact hGτ i a1 (by unfold blL; omega))
      exact this
    have w33 : τ1 157 33 = nI A.2.2 := by rw [w3 157 (by decide) (by decide) (by decide) (by decide)]; exact h33
    rw [ld_611 (by omega), Option.bind_some, hBτ.2.1 A.1 c, show nb P n (A.1 + 1) - 1 = u from hu.symm, w1, Option.bind_some]
    refine Or.inl ⟨nI (suc P n (sqN P A.2.1 (bgn P n u) (blL P n u - 1)) (bgn P n u + blL P n u - 1)), nI (k + 1), up τ1 157 33 (nI (A.2.2 + mxN P G (bgn P n u) (blL P n u))), ?_, by omega, by rw [eA, e1], rfl, by rw [eA, e1]; exact up_same _ _ _ _, fun j hj => ?_, fun j hj => ?_, fun r a1 a2 a3 a4 a5 => ?_, fun j hj => ?_⟩
    · show (f_X9_cyclesOf τ1 (nI u)).bind (fun v49 => (some (up τ1 157 33 (τ1 157 33 + v49))).bind fun s53 => some (Sum.inl (nI (suc P n (sqN P A.2.1 (bgn P n u) (blL P n u - 1)) (bgn P n u + blL P n u - 1)), nI k + (1 : Int32), s53))) = _
      rw [hcyc, Option.bind_some, Option.bind_some, w33, nI_add, l_1, nI_add]
    · by_cases ej : j = k
      · rw [ej, ← hA]; exact c
      · exact hno j (by omega)
    · rw [eA, e1]
      refine Eq.trans (congrFun (up_r (by decide)) j) (w2 j hj)
    · exact Eq.trans (up_r a1) (Eq.trans (w3 r a2 a3 a4 a5) (hfr r a1 a2 a3 a4 a5))
    · exact Eq.trans (up_k hj) (Eq.trans (congrFun (w3 157 (by decide) (by decide) (by decide) (by decide)) j) (hfk j hj))
  · rw [if_pos (show nI n ≤ nI A.1 by rw [nI_lei (by omega) (by omega)]; omega)]
    exact Or.inr ⟨_, fin, k, by rw [← hA], by rw [← hA]; exact h33, ⟨by omega, hno, Or.inr (by rw [← hA]; exact c)⟩, by rw [← hA]; exact hmk, hfr, hfk⟩
end
