/-! A PACKED BLOCK DOES WHAT ITS INSTRUCTIONS DO, ONE AFTER THE OTHER -/
section
variable {P : gP} {i j : Nat}
theorem gw_up {c : Prop} {g : Option Nat} {d k : Nat} (h : g = some d) : ∃ d', gw c (some (max (g.getD 0) k)) g = some d' ∧ d ≤ d' := by
  subst h
  by_cases q : c
  · exact ⟨max d k, gw_t q, Nat.le_max_left _ _⟩
  · exact ⟨d, gw_f q, Nat.le_refl _⟩
theorem gd_up3 {d : Nat} (h : gd3 P i j = some d) : gd P i j = some d := by
  unfold gd
  by_cases q : gc4 P i j
  · rw [gw_t q, h]; rfl
  · rw [gw_f q, h]
theorem gd_up2 {d : Nat} (h : gd2 P i j = some d) : ∃ d', gd P i j = some d' ∧ d ≤ d' := by
  obtain ⟨d', h1, h2⟩ := gw_up (c := gc3 P i j) (k := 1) h
  exact ⟨d', gd_up3 h1, h2⟩
theorem gd_raw (h : gc1 P i j) : ∃ d, gd P i j = some d ∧ latN (pop P i) ≤ d := by
  have h1 : gd1 P i j = some (latN (pop P i)) := gw_t h
  obtain ⟨d2, h2, h3⟩ := gw_up (c := gc2 P i j) (k := max 1 (latN (pop P i) + 1 - latN (pop P j))) h1
  obtain ⟨d, h4, h5⟩ := gd_up2 h2
  exact ⟨d, h4, Nat.le_trans h3 h5⟩
theorem gd_waw (h : gc2 P i j) : ∃ d, gd P i j = some d ∧ max 1 (latN (pop P i) + 1 - latN (pop P j)) ≤ d := by
  have h1 : gd2 P i j = some (max ((gd1 P i j).getD 0) (max 1 (latN (pop P i) + 1 - latN (pop P j)))) := gw_t h
  obtain ⟨d, h4, h5⟩ := gd_up2 h1
  exact ⟨d, h4, Nat.le_trans (Nat.le_max_right _ _) h5⟩
theorem gd_mem (h : gc3 P i j) : ∃ d, gd P i j = some d ∧ 1 ≤ d := by
  have h1 : gd3 P i j = some (max ((gd2 P i j).getD 0) 1) := gw_t h
  exact ⟨_, gd_up3 h1, Nat.le_max_right _ _⟩
end
def sqN (P : gP) (s : MS) (b : Nat) : Nat → MS
  | 0 => s
  | m + 1 => wr (sqN P s b m) (pw P (sqN P s b m) (b + m)) (val P (sqN P s b m) (b + m))
def pwk (P : gP) (s : MS) (b m : Nat) : Nat := pw P (sqN P s b m) (b + m)
def vk (P : gP) (s : MS) (b m : Nat) : Int32 := val P (sqN P s b m) (b + m)
def due (P : gP) (G : Nat → Nat) (i : Nat) : Nat := G i + latN (pop P i)
/-- the results that are there before group g, of the first m -/
def nN (P : gP) (s : MS) (b : Nat) (G : Nat → Nat) (g : Nat) : Nat → MS
  | 0 => s
  | m + 1 => if due P G (b + m) < g then wr (nN P s b G g m) (pwk P s b m) (vk P s b m) else nN P s b G g m
/-- the distances are kept in a block -/
def blkOK (P : gP) (b L : Nat) (G : Nat → Nat) : Prop := ∀ x, b ≤ x → x < b + L → rdy P b x (G x) G ∧ ∀ i, b ≤ i → i ≤ x → G i ≤ G x
section
variable {P : gP} {s : MS} {b L : Nat} {G : Nat → Nat}
theorem sqN_s (m : Nat) : sqN P s b (m + 1) = wr (sqN P s b m) (pwk P s b m) (vk P s b m) := rfl
theorem pw_reg {t : MS} {i r : Nat} (hr : r < 8) (h : pw P t i = r) : pop P i ≤ 8 ∧ pd P i = r := by
  unfold pw pwC at h
  by_cases c : 10 ≤ pop P i
  · rw [if_pos c] at h; omega
  · rw [if_neg c] at h
    by_cases c9 : pop P i = 9
    · rw [if_pos c9] at h; omega
    · rw [if_neg c9] at h; exact ⟨by omega, h⟩
theorem pw_mem {t : MS} {i p : Nat} (hv : pV P i) (h8 : 8 ≤ p) (h24 : p < 24) (h : pw P t i = p) : pop P i = 9 := by
  have := hv.2.2.2.1
  unfold pw pwC at h
  by_cases c : 10 ≤ pop P i
  · rw [if_pos c] at h; omega
  · rw [if_neg c] at h
    by_cases c9 : pop P i = 9
    · exact c9
    · rw [if_neg c9] at h; omega
theorem lat9 : latN 9 = 1 := rfl
theorem raw_reg (hB : blkOK P b L G) {m x r : Nat} (hm : b + m < x) (hx : x < b + L) (hr : r < 8) (hrd : rdP P x r) (h : pwk P s b m = r) : due P G (b + m) ≤ G x := by
  obtain ⟨h1, h2⟩ := pw_reg hr h
  obtain ⟨d, d1, d2⟩ := gd_raw (P := P) (i := b + m) (j := x) ⟨h1, by rw [h2]; exact hrd⟩
  have := (hB x (by omega) hx).1 (b + m) (by omega) hm d d1
  unfold due
  omega
theorem raw_mem (hV : pVs P) (h40 : b + L ≤ 40) (hB : blkOK P b L G) {m x p : Nat} (hm : b + m < x) (hx : x < b + L) (h8 : 8 ≤ p) (h24 : p < 24) (hrd : pop P x = 8) (h : pwk P s b m = p) : due P G (b + m) ≤ G x := by
  have h1 := pw_mem (hV (b + m) (by omega)) h8 h24 h
  obtain ⟨d, d1, d2⟩ := gd_mem (P := P) (i := b + m) (j := x) ⟨h1, Or.inr hrd⟩
  have := (hB x (by omega) hx).1 (b + m) (by omega) hm d d1
  unfold due
  rw [h1, lat9]
  omega
theorem waw (hV : pVs P) (h40 : b + L ≤ 40) (hB : blkOK P b L G) {m k p : Nat} (hm : m < k) (hk : k < L) (h24 : p < 24) (h1 : pwk P s b m = p) (h2 : pwk P s b k = p) : due P G (b + m) < due P G (b + k) := by
  unfold due
  have ok := (hB (b + k) (by omega) (by omega)).1 (b + m) (by omega) (by omega)
  by_cases c : p < 8
  · obtain ⟨a1, a2⟩ := pw_reg c h1
    obtain ⟨a3, a4⟩ := pw_reg c h2
    obtain ⟨d, d1, d2⟩ := gd_waw (P := P) (i := b + m) (j := b + k) ⟨a1, a3, by rw [a2, a4]⟩
    have := ok d d1
    have := latN_pos (pop P (b + k))
    omega
  · have a1 := pw_mem (hV (b + m) (by omega)) (by omega) h24 h1
    have a2 := pw_mem (hV (b + k) (by omega)) (by omega) h24 h2
    obtain ⟨d, d1, d2⟩ := gd_mem (P := P) (i := b + m) (j := b + k) ⟨a1, Or.inl a2⟩
    have := ok d d1
    rw [a1, a2, lat9]
    omega
/-- what is read at its group -/
theorem rd_low {g p : Nat} (M : Nat) (h : ∀ m, m < M → pwk P s b m = p → due P G (b + m) < g) : nN P s b G g M p = sqN P s b M p := by
  induction M with
  | zero => rfl
  | succ M ih =>
    have i1 := ih (fun m hm => h m (by omega))
    rw [sqN_s]
    show (if due P G (b + M) < g then wr (nN P s b G g M) (pwk P s b M) (vk P s b M) else nN P s b G g M) p = if p = pwk P s b M then vk P s b M else sqN P s b M p
    by_cases c : due P G (b + M) < g
    · rw [if_pos c]
      show (if p = pwk P s b M then vk P s b M else nN P s b G g M p) = _
      rw [i1]
    · rw [if_neg c, if_neg (fun q => c (h M (Nat.lt_succ_self M) q.symm)), i1]
theorem rd_high {g M : Nat} (K : Nat) (h : ∀ m, M ≤ m → m < M + K → g ≤ due P G (b + m)) : nN P s b G g (M + K) = nN P s b G g M := by
  induction K with
  | zero => rfl
  | succ K ih =>
    show (if due P G (b + (M + K)) < g then wr (nN P s b G g (M + K)) (pwk P s b (M + K)) (vk P s b (M + K)) else nN P s b G g (M + K)) = _
    have := h (M + K) (by omega) (by omega)
    rw [if_neg (by omega)]
    exact ih (fun m h1 h2 => h m h1 (by omega))
theorem rd_at (hB : blkOK P b L G) {M p : Nat} (hM : M < L) (h : ∀ m, m < M → pwk P s b m = p → due P G (b + m) ≤ G (b + M)) : nN P s b G (G (b + M) + 1) L p = sqN P s b M p := by
  have e : L = M + (L - M) := by omega
  rw [e, rd_high (L - M) (fun m h1 h2 => by
    have q1 := (hB (b + m) (by omega) (by omega)).2 (b + M) (by omega) (by omega)
    have q2 := latN_pos (pop P (b + m))
    unfold due
    omega)]
  exact rd_low M (fun m hm q => Nat.lt_succ_of_le (h m hm q))
/-- what an instruction reads decides what it does -/
theorem rd_cong {s1 s2 : MS} {x : Nat} (hv : pV P x) (h1 : ∀ r, r < 8 → rdP P x r → s1 r = s2 r) (h2 : pop P x = 8 → ∀ c, c < 16 → s1 (8 + c) = s2 (8 + c)) : val P s1 x = val P s2 x ∧ ceP P s1 x = ceP P s2 x ∧ pw P s1 x = pw P s2 x ∧ (∀ n, suc P n s1 x = suc P n s2 x) ∧ sucI P s1 x = sucI P s2 x := by
  obtain ⟨v1, v2, v3, v4, v5, v6, v7⟩ := id hv
  have ea : 1 ≤ pop P x → pop P x ≤ 9 → s1 (pa P x) = s2 (pa P x) := fun q1 q2 => h1 _ ((v7 (by omega)).2.2 q2) (Or.inl ⟨q1, q2, rfl⟩)
  have eb : ((1 ≤ pop P x ∧ pop P x ≤ 7) ∨ pop P x = 9 ∨ pop P x = 11) → s1 (pb P x) = s2 (pb P x) := fun q => h1 _ v6 (Or.inr ⟨q, rfl⟩)
  have ec : (pop P x = 8 ∨ pop P x = 9) → cel P s1 x = cel P s2 x := fun q => by
    unfold cel
    rw [ea (by omega) (by omega)]
  have e11 : (pop P x = 10 ∨ (pop P x = 11 ∧ s1 (pb P x) ≠ 0)) = (pop P x = 10 ∨ (pop P x = 11 ∧ s2 (pb P x) ≠ 0)) := by
    by_cases c : pop P x = 11
    · rw [eb (Or.inr (Or.inr c))]
    · exact propext ⟨fun q => q.elim Or.inl (fun w => absurd w.1 c), fun q => q.elim Or.inl (fun w => absurd w.1 c)⟩
  refine ⟨?_, ?_, ?_, fun n => ?_, ?_⟩
  · have hp := pop_or hv
    unfold val
    rcases hp with q | q | q | q | q | q | q | q | q | q | q | q | q
    · rw [if_pos q, if_pos q]
    · rw [if_neg (show ¬ pop P x = 0 by omega), if_neg (show ¬ pop P x = 0 by omega), if_pos q, if_pos q, ea (by omega) (by omega), eb (by omega)]
    · rw [if_neg (show ¬ pop P x = 0 by omega), if_neg (show ¬ pop P x = 0 by omega), if_neg (show ¬ pop P x = 1 by omega), if_neg (show ¬ pop P x = 1 by omega), if_pos q, if_pos q, ea (by omega) (by omega), eb (by omega)]
    · rw [if_neg (show ¬ pop P x = 0 by omega), if_neg (show ¬ pop P x = 0 by omega), if_neg (show ¬ pop P x = 1 by omega), if_neg (show ¬ pop P x = 1 by omega), if_neg (show ¬ pop P x = 2 by omega), if_neg (show ¬ pop P x = 2 by omega), if_pos q, if_pos q, ea (by omega) (by omega), eb (by omega)]
    · rw [if_neg (show ¬ pop P x = 0 by omega), if_neg (show ¬ pop P x = 0 by omega), if_neg (show ¬ pop P x = 1 by omega), if_neg (show ¬ pop P x = 1 by omega), if_neg (show ¬ pop P x = 2 by omega), if_neg (show ¬ pop P x = 2 by omega), if_neg (show ¬ pop P x = 3 by omega), if_neg (show ¬ pop P x = 3 by omega), if_pos q, if_pos q, ea (by omega) (by omega), eb (by omega)]
    · rw [if_neg (show ¬ pop P x = 0 by omega), if_neg (show ¬ pop P x = 0 by omega), if_neg (show ¬ pop P x = 1 by omega), if_neg (show ¬ pop P x = 1 by omega), if_neg (show ¬ pop P x = 2 by omega), if_neg (show ¬ pop P x = 2 by omega), if_neg (show ¬ pop P x = 3 by omega), if_neg (show ¬ pop P x = 3 by omega), if_neg (show ¬ pop P x = 4 by omega), if_neg (show ¬ pop P x = 4 by omega), if_pos q, if_pos q, ea (by omega) (by omega), eb (by omega)]
    · rw [if_neg (show ¬ pop P x = 0 by omega), if_neg (show ¬ pop P x = 0 by omega), if_neg (show ¬ pop P x = 1 by omega), if_neg (show ¬ pop P x = 1 by omega), if_neg (show ¬ pop P x = 2 by omega), if_neg (show ¬ pop P x = 2 by omega), if_neg (show ¬ pop P x = 3 by omega), if_neg (show ¬ pop P x = 3 by omega), if_neg (show ¬ pop P x = 4 by omega), if_neg (show ¬ pop P x = 4 by omega), if_neg (show ¬ pop P x = 5 by omega), if_neg (show ¬ pop P x = 5 by omega), if_pos q, if_pos q, ea (by omega) (by omega), eb (by omega)]
    · rw [if_neg (show ¬ pop P x = 0 by omega), if_neg (show ¬ pop P x = 0 by omega), if_neg (show ¬ pop P x = 1 by omega), if_neg (show ¬ pop P x = 1 by omega), if_neg (show ¬ pop P x = 2 by omega), if_neg (show ¬ pop P x = 2 by omega), if_neg (show ¬ pop P x = 3 by omega), if_neg (show ¬ pop P x = 3 by omega), if_neg (show ¬ pop P x = 4 by omega), if_neg (show ¬ pop P x = 4 by omega), if_neg (show ¬ pop P x = 5 by omega), if_neg (show ¬ pop P x = 5 by omega), if_neg (show ¬ pop P x = 6 by omega), if_neg (show ¬ pop P x = 6 by omega), if_pos q, if_pos q, ea (by omega) (by omega), eb (by omega)]
    · have e8 : s1 (8 + cel P s1 x) = s2 (8 + cel P s2 x) := by
        rw [ec (Or.inl q)]
        exact h2 q _ (and15 _).2
      rw [if_neg (show ¬ pop P x = 0 by omega), if_neg (show ¬ pop P x = 0 by omega), if_neg (show ¬ pop P x = 1 by omega), if_neg (show ¬ pop P x = 1 by omega), if_neg (show ¬ pop P x = 2 by omega), if_neg (show ¬ pop P x = 2 by omega), if_neg (show ¬ pop P x = 3 by omega), if_neg (show ¬ pop P x = 3 by omega), if_neg (show ¬ pop P x = 4 by omega), if_neg (show ¬ pop P x = 4 by omega), if_neg (show ¬ pop P x = 5 by omega), if_neg (show ¬ pop P x = 5 by omega), if_neg (show ¬ pop P x = 6 by omega), if_neg (show ¬ pop P x = 6 by omega), if_neg (show ¬ pop P x = 7 by omega), if_neg (show ¬ pop P x = 7 by omega), if_pos q, if_pos q, e8]
    · rw [if_neg (show ¬ pop P x = 0 by omega), if_neg (show ¬ pop P x = 0 by omega), if_neg (show ¬ pop P x = 1 by omega), if_neg (show ¬ pop P x = 1 by omega), if_neg (show ¬ pop P x = 2 by omega), if_neg (show ¬ pop P x = 2 by omega), if_neg (show ¬ pop P x = 3 by omega), if_neg (show ¬ pop P x = 3 by omega), if_neg (show ¬ pop P x = 4 by omega), if_neg (show ¬ pop P x = 4 by omega), if_neg (show ¬ pop P x = 5 by omega), if_neg (show ¬ pop P x = 5 by omega), if_neg (show ¬ pop P x = 6 by omega), if_neg (show ¬ pop P x = 6 by omega), if_neg (show ¬ pop P x = 7 by omega), if_neg (show ¬ pop P x = 7 by omega), if_neg (show ¬ pop P x = 8 by omega), if_neg (show ¬ pop P x = 8 by omega), if_pos q, if_pos q, eb (by omega)]
    · rw [if_neg (show ¬ pop P x = 0 by omega), if_neg (show ¬ pop P x = 0 by omega), if_neg (show ¬ pop P x = 1 by omega), if_neg (show ¬ pop P x = 1 by omega), if_neg (show ¬ pop P x = 2 by omega), if_neg (show ¬ pop P x = 2 by omega), if_neg (show ¬ pop P x = 3 by omega), if_neg (show ¬ pop P x = 3 by omega), if_neg (show ¬ pop P x = 4 by omega), if_neg (show ¬ pop P x = 4 by omega), if_neg (show ¬ pop P x = 5 by omega), if_neg (show ¬ pop P x = 5 by omega), if_neg (show ¬ pop P x = 6 by omega), if_neg (show ¬ pop P x = 6 by omega), if_neg (show ¬ pop P x = 7 by omega), if_neg (show ¬ pop P x = 7 by omega), if_neg (show ¬ pop P x = 8 by omega), if_neg (show ¬ pop P x = 8 by omega), if_neg (show ¬ pop P x = 9 by omega), if_neg (show ¬ pop P x = 9 by omega)]
    · rw [if_neg (show ¬ pop P x = 0 by omega), if_neg (show ¬ pop P x = 0 by omega), if_neg (show ¬ pop P x = 1 by omega), if_neg (show ¬ pop P x = 1 by omega), if_neg (show ¬ pop P x = 2 by omega), if_neg (show ¬ pop P x = 2 by omega), if_neg (show ¬ pop P x = 3 by omega), if_neg (show ¬ pop P x = 3 by omega), if_neg (show ¬ pop P x = 4 by omega), if_neg (show ¬ pop P x = 4 by omega), if_neg (show ¬ pop P x = 5 by omega), if_neg (show ¬ pop P x = 5 by omega), if_neg (show ¬ pop P x = 6 by omega), if_neg (show ¬ pop P x = 6 by omega), if_neg (show ¬ pop P x = 7 by omega), if_neg (show ¬ pop P x = 7 by omega), if_neg (show ¬ pop P x = 8 by omega), if_neg (show ¬ pop P x = 8 by omega), if_neg (show ¬ pop P x = 9 by omega), if_neg (show ¬ pop P x = 9 by omega)]
    · rw [if_neg (show ¬ pop P x = 0 by omega), if_neg (show ¬ pop P x = 0 by omega), if_neg (show ¬ pop P x = 1 by omega), if_neg (show ¬ pop P x = 1 by omega), if_neg (show ¬ pop P x = 2 by omega), if_neg (show ¬ pop P x = 2 by omega), if_neg (show ¬ pop P x = 3 by omega), if_neg (show ¬ pop P x = 3 by omega), if_neg (show ¬ pop P x = 4 by omega), if_neg (show ¬ pop P x = 4 by omega), if_neg (show ¬ pop P x = 5 by omega), if_neg (show ¬ pop P x = 5 by omega), if_neg (show ¬ pop P x = 6 by omega), if_neg (show ¬ pop P x = 6 by omega), if_neg (show ¬ pop P x = 7 by omega), if_neg (show ¬ pop P x = 7 by omega), if_neg (show ¬ pop P x = 8 by omega), if_neg (show ¬ pop P x = 8 by omega), if_neg (show ¬ pop P x = 9 by omega), if_neg (show ¬ pop P x = 9 by omega)]
  · unfold ceP
    by_cases c : pop P x = 8 ∨ pop P x = 9
    · rw [if_pos c, if_pos c, ec c]
    · rw [if_neg c, if_neg c]
  · unfold pw pwC
    by_cases c : 10 ≤ pop P x
    · rw [if_pos c, if_pos c]
    · rw [if_neg c, if_neg c]
      by_cases c9 : pop P x = 9
      · rw [if_pos c9, if_pos c9, ec (Or.inr c9)]
      · rw [if_neg c9, if_neg c9]
  · unfold suc
    simp only [e11]
  · unfold sucI
    simp only [e11]
theorem rd_all (hV : pVs P) (h40 : b + L ≤ 40) (hB : blkOK P b L G) {M : Nat} (hM : M < L) : val P (nN P s b G (G (b + M) + 1) L) (b + M) = vk P s b M ∧ ceP P (nN P s b G (G (b + M) + 1) L) (b + M) = ceP P (sqN P s b M) (b + M) ∧ pw P (nN P s b G (G (b + M) + 1) L) (b + M) = pwk P s b M ∧ (∀ n, suc P n (nN P s b G (G (b + M) + 1) L) (b + M) = suc P n (sqN P s b M) (b + M)) ∧ sucI P (nN P s b G (G (b + M) + 1) L) (b + M) = sucI P (sqN P s b M) (b + M) :=
  rd_cong (hV (b + M) (by omega)) (fun r hr hrd => rd_at hB hM (fun m hm q => raw_reg hB (by omega) (by omega) hr hrd q)) (fun h8 c hc => rd_at hB hM (fun m hm q => raw_mem hV h40 hB (by omega) (by omega) (Nat.le_add_right 8 c) (by omega) h8 q))
/-- results come -/
def dlv (P : gP) (s : MS) (b L : Nat) (G : Nat → Nat) (g : Nat) (K : Nat → Prop) (st : MS) : Prop := (∀ m, m < L → K m → due P G (b + m) = g → pwk P s b m < 24 → st (pwk P s b m) = vk P s b m) ∧ ∀ p, p < 24 → (∀ m, m < L → K m → due P G (b + m) = g → pwk P s b m ≠ p) → st p = nN P s b G g L p
theorem dlv_0 {g : Nat} {K : Nat → Prop} {st : MS} (hK : ∀ m, m < L → K m → due P G (b + m) ≠ g) (h : ∀ p, p < 24 → st p = nN P s b G g L p) : dlv P s b L G g K st := ⟨fun m h1 h2 h3 _ => absurd h3 (hK m h1 h2), fun p hp _ => h p hp⟩
theorem dlv_c {g : Nat} {K K' : Nat → Prop} {st : MS} (h : dlv P s b L G g K st) (hK : ∀ m, m < L → due P G (b + m) = g → (K m ↔ K' m)) : dlv P s b L G g K' st := ⟨fun m h1 h2 h3 h4 => h.1 m h1 ((hK m h1 h3).mpr h2) h3 h4, fun p hp q => h.2 p hp (fun m h1 h2 h3 => q m h1 ((hK m h1 h3).mp h2) h3)⟩
theorem dlv_1 (hV : pVs P) (h40 : b + L ≤ 40) (hB : blkOK P b L G) {g : Nat} {K : Nat → Prop} {st : MS} {m0 : Nat} (h0 : m0 < L) (hd : due P G (b + m0) = g) (h : dlv P s b L G g K st) : dlv P s b L G g (fun m => K m ∨ m = m0) (wr st (pwk P s b m0) (vk P s b m0)) := by
  refine ⟨fun m h1 h2 h3 h4 => ?_, fun p hp q => ?_⟩
  · show (if pwk P s b m = pwk P s b m0 then vk P s b m0 else st (pwk P s b m)) = vk P s b m
    by_cases e : m = m0
    · rw [e, if_pos rfl]
    · have hne : pwk P s b m ≠ pwk P s b m0 := fun w => by
        rcases Nat.lt_or_gt_of_ne e with c | c
        · have := waw (s := s) hV h40 hB c h0 h4 rfl w.symm
          omega
        · have := waw (s := s) hV h40 hB c h1 h4 w.symm rfl
          omega
      rw [if_neg hne]
      exact h.1 m h1 (h2.elim id (fun w => absurd w e)) h3 h4
  · show (if p = pwk P s b m0 then vk P s b m0 else st p) = _
    rw [if_neg (fun w => q m0 h0 (Or.inr rfl) hd w.symm)]
    exact h.2 p hp (fun m h1 h2 h3 => q m h1 (Or.inl h2) h3)
theorem nN_off {g p : Nat} (M : Nat) (h : ∀ m, m < M → due P G (b + m) = g → pwk P s b m ≠ p) : nN P s b G (g + 1) M p = nN P s b G g M p := by
  induction M with
  | zero => rfl
  | succ M ih =>
    have i1 := ih (fun m hm => h m (by omega))
    show (if due P G (b + M) < g + 1 then wr (nN P s b G (g + 1) M) (pwk P s b M) (vk P s b M) else nN P s b G (g + 1) M) p = (if due P G (b + M) < g then wr (nN P s b G g M) (pwk P s b M) (vk P s b M) else nN P s b G g M) p
    by_cases c : due P G (b + M) < g
    · rw [if_pos c, if_pos (by omega)]
      show (if p = pwk P s b M then vk P s b M else nN P s b G (g + 1) M p) = if p = pwk P s b M then vk P s b M else nN P s b G g M p
      rw [i1]
    · rw [if_neg c]
      by_cases c2 : due P G (b + M) < g + 1
      · rw [if_pos c2]
        show (if p = pwk P s b M then vk P s b M else nN P s b G (g + 1) M p) = _
        rw [if_neg (fun w => h M (Nat.lt_succ_self M) (by omega) w.symm), i1]
      · rw [if_neg c2, i1]
theorem nN_on (hV : pVs P) (h40 : b + L ≤ 40) (hB : blkOK P b L G) {g m : Nat} (hm : m < L) (hd : due P G (b + m) = g) (h24 : pwk P s b m < 24) : ∀ K, m + 1 + K ≤ L → nN P s b G (g + 1) (m + 1 + K) (pwk P s b m) = vk P s b m := by
  intro K
  induction K with
  | zero =>
    intro _
    show (if due P G (b + m) < g + 1 then wr (nN P s b G (g + 1) m) (pwk P s b m) (vk P s b m) else nN P s b G (g + 1) m) (pwk P s b m) = _
    rw [if_pos (by omega)]
    exact if_pos rfl
  | succ K ih =>
    intro hK
    have i1 := ih (by omega)
    show (if due P G (b + (m + 1 + K)) < g + 1 then wr (nN P s b G (g + 1) (m + 1 + K)) (pwk P s b (m + 1 + K)) (vk P s b (m + 1 + K)) else nN P s b G (g + 1) (m + 1 + K)) (pwk P s b m) = _
    by_cases c : due P G (b + (m + 1 + K)) < g + 1
    · rw [if_pos c]
      show (if pwk P s b m = pwk P s b (m + 1 + K) then vk P s b (m + 1 + K) else nN P s b G (g + 1) (m + 1 + K) (pwk P s b m)) = _
      rw [if_neg (fun w => by
        have := waw (s := s) hV h40 hB (m := m) (k := m + 1 + K) (by omega) (by omega) h24 rfl w.symm
        omega), i1]
    · rw [if_neg c, i1]
theorem dlv_N (hV : pVs P) (h40 : b + L ≤ 40) (hB : blkOK P b L G) {g : Nat} {K : Nat → Prop} {st : MS} (h : dlv P s b L G g K st) (hK : ∀ m, m < L → due P G (b + m) = g → K m) : ∀ p, p < 24 → st p = nN P s b G (g + 1) L p := by
  intro p hp
  by_cases q : ∃ m, m < L ∧ due P G (b + m) = g ∧ pwk P s b m = p
  · obtain ⟨m, q1, q2, q3⟩ := q
    subst q3
    rw [h.1 m q1 (hK m q1 q2) q2 hp]
    have := nN_on (s := s) hV h40 hB q1 q2 hp (L - (m + 1)) (by omega)
    rw [show m + 1 + (L - (m + 1)) = L by omega] at this
    exact this.symm
  · rw [h.2 p hp (fun m h1 h2 h3 h4 => q ⟨m, h1, h3, h4⟩)]
    exact (nN_off L (fun m h1 h2 h3 => q ⟨m, h1, h2, h3⟩)).symm
theorem nN_end {g : Nat} (M : Nat) (h : ∀ m, m < M → due P G (b + m) < g) : nN P s b G g M = sqN P s b M := by
  induction M with
  | zero => rfl
  | succ M ih =>
    show (if due P G (b + M) < g then wr (nN P s b G g M) (pwk P s b M) (vk P s b M) else nN P s b G g M) = _
    rw [if_pos (h M (Nat.lt_succ_self M)), ih (fun m hm => h m (by omega))]
    rfl
theorem nN_beg (M : Nat) : nN P s b G 0 M = s := by
  induction M with
  | zero => rfl
  | succ M ih =>
    show (if due P G (b + M) < 0 then wr (nN P s b G 0 M) (pwk P s b M) (vk P s b M) else nN P s b G 0 M) = _
    rw [if_neg (Nat.not_lt_zero _), ih]
end
