/-! DISTANCES: the class's gap and the reference's distanceOf answer the same -/
def readsP (o a b r : Nat) : Prop := (1 ≤ o ∧ o ≤ 9 ∧ a = r) ∨ (((1 ≤ o ∧ o ≤ 7) ∨ o = 9 ∨ o = 11) ∧ b = r)
def rdP (P : gP) (i r : Nat) : Prop := readsP (pop P i) (pa P i) (pb P i) r
theorem readsP_dec (o a b r : Nat) : readsP o a b r ∨ ¬ readsP o a b r := Classical.em _
def bit (k : Nat) : Int32 := nI 1 <<< (nI k &&& 31)
theorem bit_and8 : ∀ r a : Fin 8, (bit r.val &&& bit a.val = nI 0) ↔ ¬ r = a := by decide +kernel
theorem bit_or8 : ∀ r a b : Fin 8, (bit r.val &&& (bit a.val ||| bit b.val) = nI 0) ↔ (¬ r = a ∧ ¬ r = b) := by decide +kernel
theorem bit_and {r a : Nat} (hr : r < 8) (ha : a < 8) : (bit r &&& bit a = nI 0) = ¬ r = a := by
  have h := bit_and8 ⟨r, hr⟩ ⟨a, ha⟩
  rw [Fin.mk.injEq] at h
  exact propext h
theorem bit_or {r a b : Nat} (hr : r < 8) (ha : a < 8) (hb : b < 8) : (bit r &&& (bit a ||| bit b) = nI 0) = (¬ r = a ∧ ¬ r = b) := by
  have h := bit_or8 ⟨r, hr⟩ ⟨a, ha⟩ ⟨b, hb⟩
  rw [Fin.mk.injEq, Fin.mk.injEq] at h
  exact propext h
def rdB (o a b : Nat) : Int32 := if o = 0 ∨ o = 10 ∨ o = 12 then nI 0 else if o = 8 then bit a else if o = 11 then bit b else bit a ||| bit b
theorem and0 (x : Int32) : x &&& nI 0 = nI 0 := Int32.and_zero
theorem and0l (x : Int32) : nI 0 &&& x = nI 0 := Int32.zero_and
theorem rdB_and {o a b r : Nat} (ho : o < 13) (hr : r < 8) (ha : o ≠ 0 → o ≤ 9 → a < 8) (hb : b < 8) : (bit r &&& rdB o a b = nI 0) = ¬ readsP o a b r := by
  unfold rdB readsP
  by_cases c1 : o = 0 ∨ o = 10 ∨ o = 12
  · rw [if_pos c1, and0]
    exact propext ⟨fun _ => by omega, fun _ => rfl⟩
  · rw [if_neg c1]
    by_cases c2 : o = 8
    · rw [if_pos c2, bit_and hr (ha (by omega) (by omega))]
      exact propext ⟨fun _ => by omega, fun _ => by omega⟩
    · rw [if_neg c2]
      by_cases c3 : o = 11
      · rw [if_pos c3, bit_and hr hb]
        exact propext ⟨fun _ => by omega, fun _ => by omega⟩
      · rw [if_neg c3, bit_or hr (ha (by omega) (by omega)) hb]
        exact propext ⟨fun _ => by omega, fun _ => by omega⟩
theorem imax_of {x y : Int32} (h : x < y) : imax x y = y := if_pos h
theorem imax_not {x y : Int32} (h : ¬ x < y) : imax x y = x := if_neg h
theorem imax_nI {a b : Nat} (ha : a < 2147483648) (hb : b < 2147483648) : imax (nI a) (nI b) = nI (max a b) := by
  by_cases h : a < b
  · rw [imax_of (by rw [nI_lti ha hb]; exact h), Nat.max_eq_right (by omega)]
  · rw [imax_not (by rw [nI_lti ha hb]; exact h), Nat.max_eq_left (by omega)]
/-- a distance, or none -/
def dv : Option Nat → Int32
  | none => mI 4
  | some k => nI k
theorem neg4_lt {k : Nat} (h : k < 2147483648) : mI 4 < nI k := mI_lt (by decide) (by decide) h
theorem imax_dv {g : Option Nat} {k : Nat} (hg : ∀ x, g = some x → x < 1000) (hk : k < 1000) : imax (dv g) (nI k) = nI (max (g.getD 0) k) := by
  cases g with
  | none => rw [show dv none = mI 4 from rfl, imax_of (neg4_lt (by omega)), Option.getD_none, Nat.zero_max]
  | some x => rw [show dv (some x) = nI x from rfl, imax_nI (by have := hg x rfl; omega) (by omega), Option.getD_some]
theorem lat_cases (o : Nat) : latN o = 1 ∨ latN o = 2 ∨ latN o = 3 := by
  unfold latN; split <;> (try split) <;> omega
theorem lat_diff {a b : Nat} (ha : a = 1 ∨ a = 2 ∨ a = 3) (hb : b = 1 ∨ b = 2 ∨ b = 3) : imax (nI 1) ((nI a - nI b) + nI 1) = nI (max 1 (a + 1 - b)) := by
  rcases ha with rfl | rfl | rfl <;> rcases hb with rfl | rfl | rfl <;> decide
section
variable (P : gP) (i j : Nat)
def gc1 : Prop := pop P i ≤ 8 ∧ rdP P j (pd P i)
def gc2 : Prop := pop P i ≤ 8 ∧ pop P j ≤ 8 ∧ pd P i = pd P j
def gc3 : Prop := pop P i = 9 ∧ (pop P j = 9 ∨ pop P j = 8)
def gc4 : Prop := (pop P j ≤ 8 ∧ rdP P i (pd P j)) ∨ (pop P i = 8 ∧ pop P j = 9) ∨ 10 ≤ pop P j
noncomputable def gw (c : Prop) (x y : Option Nat) : Option Nat := @ite _ c (Classical.propDecidable c) x y
theorem gw_t {c : Prop} {x y : Option Nat} (h : c) : gw c x y = x := @if_pos _ (Classical.propDecidable c) h _ x y
theorem gw_f {c : Prop} {x y : Option Nat} (h : ¬ c) : gw c x y = y := @if_neg _ (Classical.propDecidable c) h _ x y
noncomputable def gd1 : Option Nat := gw (gc1 P i j) (some (latN (pop P i))) none
noncomputable def gd2 : Option Nat := gw (gc2 P i j) (some (max ((gd1 P i j).getD 0) (max 1 (latN (pop P i) + 1 - latN (pop P j))))) (gd1 P i j)
noncomputable def gd3 : Option Nat := gw (gc3 P i j) (some (max ((gd2 P i j).getD 0) 1)) (gd2 P i j)
/-- the distance from i to j, if there is one -/
noncomputable def gd : Option Nat := gw (gc4 P i j) (some ((gd3 P i j).getD 0)) (gd3 P i j)
end
def gsm (g : Option Nat) : Prop := ∀ x, g = some x → x ≤ 3
theorem gsm_getD {g : Option Nat} (h : gsm g) : g.getD 0 ≤ 3 := by
  cases g with
  | none => exact Nat.zero_le _
  | some x => exact h x rfl
theorem gsm_gw {c : Prop} {k : Nat} {g : Option Nat} (hk : k ≤ 3) (hg : gsm g) : gsm (gw c (some k) g) := by
  intro x hx
  by_cases h : c
  · rw [gw_t h] at hx; cases hx; exact hk
  · rw [gw_f h] at hx; exact hg x hx
theorem gd1_sm (P : gP) (i j : Nat) : gsm (gd1 P i j) := gsm_gw (latN_le _) (fun x h => by cases h)
theorem gd2_sm (P : gP) (i j : Nat) : gsm (gd2 P i j) := gsm_gw (by have h1 := gsm_getD (gd1_sm P i j); have h2 := latN_le (pop P i); have h3 := latN_pos (pop P j); omega) (gd1_sm P i j)
theorem gd3_sm (P : gP) (i j : Nat) : gsm (gd3 P i j) := gsm_gw (by have h1 := gsm_getD (gd2_sm P i j); omega) (gd2_sm P i j)
theorem gd_sm (P : gP) (i j : Nat) : gsm (gd P i j) := gsm_gw (gsm_getD (gd3_sm P i j)) (gd3_sm P i j)
theorem gsm_k {g : Option Nat} (h : gsm g) : ∀ x, g = some x → x < 1000 := fun x hx => by have := h x hx; omega
section
variable {σ : sg} {P : gP}
/-! the class -/
theorem x6_wr (h : rI σ P) {i : Nat} (hi : i < 40) (hv : pV P i) : f_X6_written σ (nI i) = some (if pop P i ≤ 8 then bit (pd P i) else nI 0) := by
  obtain ⟨v1, v2, v3, v4, -⟩ := hv
  unfold f_X6_written
  simp (disch := omega) only [neg_nI, l_0, l_1, l_2, l_3, l_4, l_5, l_6, l_7, l_8, l_9, l_10, l_11, l_12, l_13, l_14, l_15, l_16, l_17, l_18, l_19, l_20, l_21, l_22, l_23, l_24, l_25, l_26, l_27, l_28, l_29, l_30, l_31, l_32, l_33, l_34, l_35, l_36, l_37, l_38, l_39, l_40, l_41, l_100, l_160, l_300, l_999, l_1000, l_2000, ldr_2, ldI h, Option.bind_some, Option.bind_none, if_pos, if_neg, reduceIte, v1, v3, nI_lti]
  by_cases c : pop P i ≤ 8
  · rw [if_neg (by omega), if_pos c]; rfl
  · rw [if_pos (by omega), if_neg c]
theorem x6_rd (h : rI σ P) {i : Nat} (hi : i < 40) (hv : pV P i) : f_X6_read σ (nI i) = some (rdB (pop P i) (pa P i) (pb P i)) := by
  obtain ⟨v1, v2, v3, v4, v5, v6, v7⟩ := hv
  have e0 : ld σ (3 + i) 0 = some (P i 0) := ldI h hi (by decide)
  unfold f_X6_read J_X6_read_90 rdB
  rw [ldr_2 hi, Option.bind_some, e0, Option.bind_some, v1]
  generalize ho : pop P i = o at *
  by_cases c0 : o = 0
  · subst c0
    rfl
  · obtain ⟨w1, w2, w3⟩ := v7 c0
    have e2 : ld σ (3 + i) 2 = some (P i 2) := ldI h hi (by decide)
    have e3 : ld σ (3 + i) 3 = some (P i 3) := ldI h hi (by decide)
    rw [e2, e3, v5, w1]
    rcases (show o = 1 ∨ o = 2 ∨ o = 3 ∨ o = 4 ∨ o = 5 ∨ o = 6 ∨ o = 7 ∨ o = 8 ∨ o = 9 ∨ o = 10 ∨ o = 11 ∨ o = 12 by omega) with rfl | rfl | rfl | rfl | rfl | rfl | rfl | rfl | rfl | rfl | rfl | rfl <;> rfl
theorem x6_wr_rd (h : rI σ P) {i j : Nat} (hi : i < 40) (hj : j < 40) (hv : pV P i) (hw : pV P j) : ((if pop P i ≤ 8 then bit (pd P i) else nI 0) &&& rdB (pop P j) (pa P j) (pb P j) = nI 0) = ¬ gc1 P i j := by
  unfold gc1 rdP
  obtain ⟨v1, v2, v3, v4, -⟩ := hv
  obtain ⟨w1, w2, w3, w4, w5, w6, w7⟩ := hw
  by_cases c : pop P i ≤ 8
  · rw [if_pos c, rdB_and w2 v4 (fun a b => (w7 a).2.2 b) w6]
    exact propext ⟨fun a b => a b.2, fun a b => a ⟨c, b⟩⟩
  · rw [if_neg c, and0l]
    exact propext ⟨fun _ b => c b.1, fun _ => rfl⟩
theorem x6_wr_wr {i j : Nat} (hv : pV P i) (hw : pV P j) : ((if pop P i ≤ 8 then bit (pd P i) else nI 0) &&& (if pop P j ≤ 8 then bit (pd P j) else nI 0) = nI 0) = ¬ gc2 P i j := by
  unfold gc2
  obtain ⟨v1, v2, v3, v4, -⟩ := hv
  obtain ⟨w1, w2, w3, w4, -⟩ := hw
  by_cases c : pop P i ≤ 8
  · by_cases c2 : pop P j ≤ 8
    · rw [if_pos c, if_pos c2, bit_and v4 w4]
      exact propext ⟨fun a b => a b.2.2, fun a b => a ⟨c, c2, b⟩⟩
    · rw [if_neg c2, and0]
      exact propext ⟨fun _ b => c2 b.2.1, fun _ => rfl⟩
  · rw [if_neg c, and0l]
    exact propext ⟨fun _ b => c b.1, fun _ => rfl⟩
theorem x6_rd_wr {i j : Nat} (hv : pV P i) (hw : pV P j) : (rdB (pop P i) (pa P i) (pb P i) &&& (if pop P j ≤ 8 then bit (pd P j) else nI 0) = nI 0) = ¬ (pop P j ≤ 8 ∧ rdP P i (pd P j)) := by
  unfold rdP
  obtain ⟨w1, w2, w3, w4, -⟩ := hw
  obtain ⟨v1, v2, v3, v4, v5, v6, v7⟩ := hv
  by_cases c : pop P j ≤ 8
  · rw [if_pos c, Int32.and_comm, rdB_and v2 w4 (fun a b => (v7 a).2.2 b) v6]
    exact propext ⟨fun a b => a b.2, fun a b => a ⟨c, b⟩⟩
  · rw [if_neg c, and0]
    exact propext ⟨fun _ b => c b.1, fun _ => rfl⟩
theorem x6_g144 {g : Option Nat} (hg : gsm g) : J_X6_gap_144 σ (dv g) = some (dv (some (g.getD 0))) := by
  unfold J_X6_gap_144
  rw [l_0, imax_dv (gsm_k hg) (by decide), Nat.max_zero]
  rfl
theorem x6_g110 (h : rI σ P) {i j : Nat} (hi : i < 40) (hj : j < 40) (hv : pV P i) (hw : pV P j) {g : Option Nat} (hg : gsm g) : J_X6_gap_110 σ (nI i) (nI j) (P i 0) (P j 0) (dv g) = some (dv (gw (gc4 P i j) (some (g.getD 0)) g)) := by
  unfold J_X6_gap_110
  rw [x6_rd h hi hv, x6_wr h hj hw]
  have w2 := hw.2.1
  have v2 := hv.2.1
  have e1 := x6_rd_wr hv hw
  rw [hv.1, hw.1]
  unfold J_X6_gap_137
  have T : gc4 P i j → gw (gc4 P i j) (some (g.getD 0)) g = some (g.getD 0) := gw_t
  have F : ¬ gc4 P i j → gw (gc4 P i j) (some (g.getD 0)) g = g := gw_f
  simp (disch := omega) only [neg_nI, l_0, l_1, l_2, l_3, l_4, l_5, l_6, l_7, l_8, l_9, l_10, l_11, l_12, l_13, l_14, l_15, l_16, l_17, l_18, l_19, l_20, l_21, l_22, l_23, l_24, l_25, l_26, l_27, l_28, l_29, l_30, l_31, l_32, l_33, l_34, l_35, l_36, l_37, l_38, l_39, l_40, l_41, l_100, l_160, l_300, l_999, l_1000, l_2000, Option.bind_some, nI_inj, nI_lti, x6_g144 hg]
  by_cases c1 : pop P j ≤ 8 ∧ rdP P i (pd P j)
  · rw [if_neg (by rw [e1]; exact fun a => a c1), T (Or.inl c1)]
  · rw [if_pos (by rw [e1]; exact c1)]
    by_cases c2 : pop P i = 8
    · rw [if_pos c2]
      by_cases c3 : pop P j = 9
      · rw [if_pos c3, T (Or.inr (Or.inl ⟨c2, c3⟩))]
      · rw [if_neg c3]
        by_cases c4 : pop P j < 10
        · rw [if_pos c4, F (fun q => q.elim c1 (fun q => q.elim (fun a => c3 a.2) (fun a => by omega)))]
        · rw [if_neg c4, T (Or.inr (Or.inr (by omega)))]
    · rw [if_neg c2]
      by_cases c4 : pop P j < 10
      · rw [if_pos c4, F (fun q => q.elim c1 (fun q => q.elim (fun a => c2 a.1) (fun a => by omega)))]
      · rw [if_neg c4, T (Or.inr (Or.inr (by omega)))]
theorem x6_g82 (h : rI σ P) {i j : Nat} (hi : i < 40) (hj : j < 40) (hv : pV P i) (hw : pV P j) : J_X6_gap_82 σ (nI i) (nI j) (P i 0) (P j 0) (dv (gd2 P i j)) = some (dv (gd P i j)) := by
  have w2 := hw.2.1
  have v2 := hv.2.1
  have e2 : ∀ g, gsm g → J_X6_gap_110 σ (nI i) (nI j) (nI (pop P i)) (nI (pop P j)) (dv g) = some (dv (gw (gc4 P i j) (some (g.getD 0)) g)) := fun g hg => by
    have := x6_g110 h hi hj hv hw hg
    rwa [hv.1, hw.1] at this
  have e3 : J_X6_gap_102 σ (nI i) (nI j) (nI (pop P i)) (nI (pop P j)) (dv (gd2 P i j)) = some (dv (gw (gc4 P i j) (some (max ((gd2 P i j).getD 0) 1)) (some (max ((gd2 P i j).getD 0) 1)))) := by
    unfold J_X6_gap_102
    rw [l_1, imax_dv (gsm_k (gd2_sm P i j)) (by decide)]
    exact e2 (some (max ((gd2 P i j).getD 0) 1)) (fun x hx => by cases hx; have := gsm_getD (gd2_sm P i j); omega)
  unfold J_X6_gap_82 gd
  rw [hv.1, hw.1]
  simp (disch := omega) only [neg_nI, l_0, l_1, l_2, l_3, l_4, l_5, l_6, l_7, l_8, l_9, l_10, l_11, l_12, l_13, l_14, l_15, l_16, l_17, l_18, l_19, l_20, l_21, l_22, l_23, l_24, l_25, l_26, l_27, l_28, l_29, l_30, l_31, l_32, l_33, l_34, l_35, l_36, l_37, l_38, l_39, l_40, l_41, l_100, l_160, l_300, l_999, l_1000, l_2000, nI_inj]
  by_cases c1 : pop P i = 9
  · rw [if_pos c1]
    by_cases c2 : pop P j = 9
    · rw [if_pos c2, e3, show gd3 P i j = _ from gw_t ⟨c1, Or.inl c2⟩]; rfl
    · rw [if_neg c2]
      by_cases c3 : pop P j = 8
      · rw [if_pos c3, e3, show gd3 P i j = _ from gw_t ⟨c1, Or.inr c3⟩]; rfl
      · rw [if_neg c3, e2 _ (gd2_sm P i j), show gd3 P i j = _ from gw_f (by unfold gc3; omega)]
  · rw [if_neg c1, e2 _ (gd2_sm P i j), show gd3 P i j = _ from gw_f (by unfold gc3; omega)]
theorem x6_g44 (h : rI σ P) {i j : Nat} (hi : i < 40) (hj : j < 40) (hv : pV P i) (hw : pV P j) : J_X6_gap_44 σ (nI i) (nI j) (P i 0) (P j 0) (dv (gd1 P i j)) = some (dv (gd P i j)) := by
  unfold J_X6_gap_44
  rw [x6_wr h hi hv, x6_wr h hj hw, x6_lat h hi hv, x6_lat h hj hw]
  have q := x6_wr_wr hv hw
  generalize (if pop P i ≤ 8 then bit (pd P i) else nI 0) = A at q ⊢
  generalize (if pop P j ≤ 8 then bit (pd P j) else nI 0) = B at q ⊢
  simp only [neg_nI, l_0, l_1, l_2, l_3, l_4, l_5, l_6, l_7, l_8, l_9, l_10, l_11, l_12, l_13, l_14, l_15, l_16, l_17, l_18, l_19, l_20, l_21, l_22, l_23, l_24, l_25, l_26, l_27, l_28, l_29, l_30, l_31, l_32, l_33, l_34, l_35, l_36, l_37, l_38, l_39, l_40, l_41, l_100, l_160, l_300, l_999, l_1000, l_2000, Option.bind_some]
  by_cases c : gc2 P i j
  · rw [if_neg (by rw [q]; exact fun a => a c), lat_diff (lat_cases _) (lat_cases _), imax_dv (gsm_k (gd1_sm P i j)) (by have h2 := latN_le (pop P i); omega)]
    have e : (some (max ((gd1 P i j).getD 0) (max 1 (latN (pop P i) + 1 - latN (pop P j))))) = gd2 P i j := (gw_t c).symm
    have := x6_g82 h hi hj hv hw
    rw [← e] at this
    exact this
  · rw [if_pos (by rw [q]; exact c)]
    have e : gd1 P i j = gd2 P i j := (gw_f c).symm
    rw [e]
    exact x6_g82 h hi hj hv hw
theorem x6_gap (h : rI σ P) {i j : Nat} (hi : i < 40) (hj : j < 40) (hv : pV P i) (hw : pV P j) : f_X6_gap σ (nI i) (nI j) = some (dv (gd P i j)) := by
  unfold f_X6_gap
  rw [x6_wr h hi hv, x6_rd h hj hw, x6_lat h hi hv]
  have q := x6_wr_rd h hi hj hv hw
  generalize (if pop P i ≤ 8 then bit (pd P i) else nI 0) = A at q ⊢
  simp (disch := omega) only [neg_nI, l_0, l_1, l_2, l_3, l_4, l_5, l_6, l_7, l_8, l_9, l_10, l_11, l_12, l_13, l_14, l_15, l_16, l_17, l_18, l_19, l_20, l_21, l_22, l_23, l_24, l_25, l_26, l_27, l_28, l_29, l_30, l_31, l_32, l_33, l_34, l_35, l_36, l_37, l_38, l_39, l_40, l_41, l_100, l_160, l_300, l_999, l_1000, l_2000, ldr_2, ldI h, Option.bind_some]
  by_cases c : gc1 P i j
  · rw [if_neg (by rw [q]; exact fun a => a c)]
    have e : some (latN (pop P i)) = gd1 P i j := (gw_t c).symm
    have := x6_g44 h hi hj hv hw
    rw [← e] at this
    exact this
  · rw [if_pos (by rw [q]; exact c)]
    have e : none = gd1 P i j := (gw_f c).symm
    have := x6_g44 h hi hj hv hw
    rw [← e] at this
    exact this
/-! the reference -/
theorem x9_r59 (h : rM σ P) {i r : Nat} (hi : i < 40) (hr : r < 8) (hv : pV P i) {x : Int32} (hx : x = nI 0 ∨ x = nI 1) : J_X9_reads_59 σ (nI i) (nI r) x = some (if pb P i = r then nI 1 else x) := by
  obtain ⟨v1, v2, v3, v4, v5, v6, v7⟩ := hv
  unfold J_X9_reads_59 J_X9_reads_75
  simp (disch := omega) only [neg_nI, l_0, l_1, l_2, l_3, l_4, l_5, l_6, l_7, l_8, l_9, l_10, l_11, l_12, l_13, l_14, l_15, l_16, l_17, l_18, l_19, l_20, l_21, l_22, l_23, l_24, l_25, l_26, l_27, l_28, l_29, l_30, l_31, l_32, l_33, l_34, l_35, l_36, l_37, l_38, l_39, l_40, l_41, l_100, l_160, l_300, l_999, l_1000, l_2000, ldr_158, ldM h, Option.bind_some, v5, nI_inj]
  by_cases c : pb P i = r
  · rw [if_pos c, if_pos c]; rcases hx with rfl | rfl <;> rfl
  · rw [if_neg c, if_neg c]; rcases hx with rfl | rfl <;> rfl
theorem x9_r47 (h : rM σ P) {i r : Nat} (hi : i < 40) (hr : r < 8) (hv : pV P i) {x : Int32} (hx : x = nI 0 ∨ x = nI 1) : J_X9_reads_47 σ (nI i) (nI r) (P i 0) x = some (if (pop P i = 9 ∨ pop P i = 11) ∧ pb P i = r then nI 1 else x) := by
  unfold J_X9_reads_47
  rw [x9_r59 h hi hr hv hx, hv.1]
  have v2 := hv.2.1
  have e75 : J_X9_reads_75 σ x = some x := by rcases hx with rfl | rfl <;> rfl
  rw [e75]
  simp (disch := omega) only [neg_nI, l_0, l_1, l_2, l_3, l_4, l_5, l_6, l_7, l_8, l_9, l_10, l_11, l_12, l_13, l_14, l_15, l_16, l_17, l_18, l_19, l_20, l_21, l_22, l_23, l_24, l_25, l_26, l_27, l_28, l_29, l_30, l_31, l_32, l_33, l_34, l_35, l_36, l_37, l_38, l_39, l_40, l_41, l_100, l_160, l_300, l_999, l_1000, l_2000, nI_inj]
  repeat' split
  all_goals first | rfl | (exfalso; omega)
theorem x9_r34 (h : rM σ P) {i r : Nat} (hi : i < 40) (hr : r < 8) (hv : pV P i) {x : Int32} (hx : x = nI 0 ∨ x = nI 1) : J_X9_reads_34 σ (nI i) (nI r) (P i 0) x = some (if ((1 ≤ pop P i ∧ pop P i ≤ 7) ∨ pop P i = 9 ∨ pop P i = 11) ∧ pb P i = r then nI 1 else x) := by
  unfold J_X9_reads_34
  rw [x9_r59 h hi hr hv hx, x9_r47 h hi hr hv hx, hv.1]
  have v2 := hv.2.1
  simp (disch := omega) only [neg_nI, l_0, l_1, l_2, l_3, l_4, l_5, l_6, l_7, l_8, l_9, l_10, l_11, l_12, l_13, l_14, l_15, l_16, l_17, l_18, l_19, l_20, l_21, l_22, l_23, l_24, l_25, l_26, l_27, l_28, l_29, l_30, l_31, l_32, l_33, l_34, l_35, l_36, l_37, l_38, l_39, l_40, l_41, l_100, l_160, l_300, l_999, l_1000, l_2000, nI_lti, nI_lei]
  repeat' split
  all_goals first | rfl | (exfalso; omega)
theorem x9_rd (h : rM σ P) {i r : Nat} (hi : i < 40) (hr : r < 8) (hv : pV P i) : (rdP P i r → f_X9_reads σ (nI i) (nI r) = some (nI 1)) ∧ (¬ rdP P i r → f_X9_reads σ (nI i) (nI r) = some (nI 0)) := by
  have key : f_X9_reads σ (nI i) (nI r) = some (if (1 ≤ pop P i ∧ pop P i ≤ 9 ∧ pa P i = r) ∨ (((1 ≤ pop P i ∧ pop P i ≤ 7) ∨ pop P i = 9 ∨ pop P i = 11) ∧ pb P i = r) then nI 1 else nI 0) := by
    have e0 := x9_r34 h hi hr hv (x := nI 0) (Or.inl rfl)
    have e1 := x9_r34 h hi hr hv (x := nI 1) (Or.inr rfl)
    unfold f_X9_reads J_X9_reads_33
    rw [x9_op h hi, Option.bind_some, l_1, l_0, e0, e1, hv.1]
    have v2 := hv.2.1
    by_cases c0 : pop P i = 0
    · rw [c0]
      rfl
    · obtain ⟨w1, w2, w3⟩ := hv.2.2.2.2.2.2 c0
      simp (disch := omega) only [neg_nI, l_0, l_1, l_2, l_3, l_4, l_5, l_6, l_7, l_8, l_9, l_10, l_11, l_12, l_13, l_14, l_15, l_16, l_17, l_18, l_19, l_20, l_21, l_22, l_23, l_24, l_25, l_26, l_27, l_28, l_29, l_30, l_31, l_32, l_33, l_34, l_35, l_36, l_37, l_38, l_39, l_40, l_41, l_100, l_160, l_300, l_999, l_1000, l_2000, ldr_158, ldM h, Option.bind_some, w1, nI_inj, nI_lti]
      repeat' split
      all_goals first | rfl | (exfalso; omega)
  unfold rdP readsP
  exact ⟨fun a => by rw [key, if_pos a], fun a => by rw [key, if_neg a]⟩
theorem x9_wr (h : rM σ P) {i : Nat} (hi : i < 40) (hv : pV P i) : f_X9_written σ (nI i) = some (if pop P i ≤ 8 then nI (pd P i) else mI 1) := by
  obtain ⟨v1, v2, v3, v4, -⟩ := hv
  unfold f_X9_written
  rw [x9_op h hi, v1]
  simp (disch := omega) only [neg_nI, l_0, l_1, l_2, l_3, l_4, l_5, l_6, l_7, l_8, l_9, l_10, l_11, l_12, l_13, l_14, l_15, l_16, l_17, l_18, l_19, l_20, l_21, l_22, l_23, l_24, l_25, l_26, l_27, l_28, l_29, l_30, l_31, l_32, l_33, l_34, l_35, l_36, l_37, l_38, l_39, l_40, l_41, l_100, l_160, l_300, l_999, l_1000, l_2000, ldr_158, ldM h, Option.bind_some, v3, nI_lti]
  by_cases c : pop P i ≤ 8
  · rw [if_neg (by omega), if_pos c]
  · rw [if_pos (by omega), if_neg c]
theorem x9_g181 {g : Option Nat} (hg : gsm g) : J_X9_distanceOf_181 σ (dv g) (nI 1) = some (dv (some (g.getD 0))) ∧ J_X9_distanceOf_181 σ (dv g) (nI 0) = some (dv g) := by
  unfold J_X9_distanceOf_181
  refine ⟨?_, if_pos rfl⟩
  rw [if_neg (by decide)]
  cases g with
  | none => rw [if_neg (by decide)]; rfl
  | some x => rw [if_pos (show 0 ≤ dv (some x) from nI_pos' (by have := hg x rfl; omega))]; rfl
theorem x9_g168 (h : rM σ P) {j : Nat} (hj : j < 40) (hw : pV P j) {g : Option Nat} (hg : gsm g) : J_X9_distanceOf_168 σ (nI j) (dv g) = some (dv (gw (10 ≤ pop P j) (some (g.getD 0)) g)) := by
  unfold J_X9_distanceOf_168 J_X9_distanceOf_176
  rw [x9_exit h hj hw]
  simp only [neg_nI, l_0, l_1, l_2, l_3, l_4, l_5, l_6, l_7, l_8, l_9, l_10, l_11, l_12, l_13, l_14, l_15, l_16, l_17, l_18, l_19, l_20, l_21, l_22, l_23, l_24, l_25, l_26, l_27, l_28, l_29, l_30, l_31, l_32, l_33, l_34, l_35, l_36, l_37, l_38, l_39, l_40, l_41, l_100, l_160, l_300, l_999, l_1000, l_2000, Option.bind_some, nI_01]
  by_cases c : 10 ≤ pop P j
  · rw [if_neg (fun a => a c), (x9_g181 hg).1, gw_t c]
  · rw [if_pos c, (x9_g181 hg).2, gw_f c]
theorem x9_g148 (h : rM σ P) {i j : Nat} (hi : i < 40) (hj : j < 40) (hv : pV P i) (hw : pV P j) {g : Option Nat} (hg : gsm g) : J_X9_distanceOf_148 σ (nI i) (nI j) (dv g) = some (dv (gw ((pop P i = 8 ∧ pop P j = 9) ∨ 10 ≤ pop P j) (some (g.getD 0)) g)) := by
  unfold J_X9_distanceOf_148
  have v2 := hv.2.1
  have w2 := hw.2.1
  rw [x9_op h hi, x9_op h hj, hv.1, hw.1, x9_g168 h hj hw hg]
  unfold J_X9_distanceOf_176
  simp (disch := omega) only [neg_nI, l_0, l_1, l_2, l_3, l_4, l_5, l_6, l_7, l_8, l_9, l_10, l_11, l_12, l_13, l_14, l_15, l_16, l_17, l_18, l_19, l_20, l_21, l_22, l_23, l_24, l_25, l_26, l_27, l_28, l_29, l_30, l_31, l_32, l_33, l_34, l_35, l_36, l_37, l_38, l_39, l_40, l_41, l_100, l_160, l_300, l_999, l_1000, l_2000, Option.bind_some, nI_inj]
  by_cases c1 : pop P i = 8
  · rw [if_pos c1]
    by_cases c2 : pop P j = 9
    · rw [if_pos c2, (x9_g181 hg).1, gw_t (Or.inl ⟨c1, c2⟩)]
    · rw [if_neg c2]
      by_cases c3 : 10 ≤ pop P j
      · rw [gw_t c3, gw_t (Or.inr c3)]
      · rw [gw_f c3, gw_f (by omega)]
  · rw [if_neg c1]
    by_cases c3 : 10 ≤ pop P j
    · rw [gw_t c3, gw_t (Or.inr c3)]
    · rw [gw_f c3, gw_f (by omega)]
theorem neg1_lt : mI 1 < nI 0 := by decide
theorem x9_g133 (h : rM σ P) {i j : Nat} (hi : i < 40) (hj : j < 40) (hv : pV P i) (hw : pV P j) {g : Option Nat} (hg : gsm g) : J_X9_distanceOf_133 σ (nI i) (nI j) (dv g) (if pop P j ≤ 8 then nI (pd P j) else mI 1) = some (dv (gw (gc4 P i j) (some (g.getD 0)) g)) := by
  unfold J_X9_distanceOf_133
  rw [x9_g148 h hi hj hv hw hg]
  have w4 := hw.2.2.2.1
  by_cases c1 : pop P j ≤ 8
  · rw [if_pos c1, if_neg (nI_pos (by omega))]
    by_cases c2 : rdP P i (pd P j)
    · rw [(x9_rd h hi w4 hv).1 c2, show gw (gc4 P i j) (some (g.getD 0)) g = _ from gw_t (Or.inl ⟨c1, c2⟩), Option.bind_some, if_neg (show ¬ nI 1 = 0 by decide)]
      exact (x9_g181 hg).1
    · rw [(x9_rd h hi w4 hv).2 c2, Option.bind_some, if_pos (show nI 0 = 0 from rfl)]
      by_cases c3 : (pop P i = 8 ∧ pop P j = 9) ∨ 10 ≤ pop P j
      · rw [gw_t c3, show gw (gc4 P i j) (some (g.getD 0)) g = _ from gw_t (Or.inr c3)]
      · rw [gw_f c3, show gw (gc4 P i j) (some (g.getD 0)) g = _ from gw_f (fun q => q.elim (fun a => c2 a.2) c3)]
  · rw [show (if pop P j ≤ 8 then nI (pd P j) else mI 1) = mI 1 from if_neg c1, if_pos (show mI 1 < 0 from neg1_lt)]
    by_cases c3 : (pop P i = 8 ∧ pop P j = 9) ∨ 10 ≤ pop P j
    · rw [gw_t c3, show gw (gc4 P i j) (some (g.getD 0)) g = _ from gw_t (Or.inr c3)]
    · rw [gw_f c3, show gw (gc4 P i j) (some (g.getD 0)) g = _ from gw_f (fun q => q.elim (fun a => c1 a.1) c3)]
theorem x9_g122 (h : rM σ P) {i j : Nat} (hi : i < 40) (hj : j < 40) (hv : pV P i) (hw : pV P j) {g : Option Nat} (hg : gsm g) : J_X9_distanceOf_122 σ (nI i) (nI j) (dv g) (if pop P j ≤ 8 then nI (pd P j) else mI 1) = some (dv (gw (gc4 P i j) (some (max (g.getD 0) 1)) (some (max (g.getD 0) 1)))) := by
  have e := x9_g133 h hi hj hv hw (g := some (max (g.getD 0) 1)) (fun x hx => by cases hx; have := gsm_getD hg; omega)
  unfold J_X9_distanceOf_122 J_X9_distanceOf_132
  cases g with
  | none => rw [if_neg (by decide)]; exact e
  | some x =>
    have hx := hg x rfl
    rw [show dv (some x) = nI x from rfl]
    by_cases c : 1 ≤ x
    · rw [if_pos (show (1 : Int32) ≤ nI x by rw [l_1, nI_lei (by omega) (by omega)]; exact c)]
      rw [show max ((some x).getD 0) 1 = x from Nat.max_eq_left c] at e ⊢
      exact e
    · rw [if_neg (show ¬ (1 : Int32) ≤ nI x by rw [l_1, nI_lei (by omega) (by omega)]; exact c)]
      rw [show max ((some x).getD 0) 1 = 1 from Nat.max_eq_right (by show x ≤ 1; omega)] at e ⊢
      exact e
theorem x9_g92 (h : rM σ P) {i j : Nat} (hi : i < 40) (hj : j < 40) (hv : pV P i) (hw : pV P j) : J_X9_distanceOf_92 σ (nI i) (nI j) (dv (gd2 P i j)) (if pop P j ≤ 8 then nI (pd P j) else mI 1) = some (dv (gd P i j)) := by
  have w2 := hw.2.1
  have v2 := hv.2.1
  have e1 := x9_g122 h hi hj hv hw (gd2_sm P i j)
  have e2 := x9_g133 h hi hj hv hw (gd2_sm P i j)
  unfold J_X9_distanceOf_92 gd
  rw [x9_op h hi, x9_op h hj, hv.1, hw.1]
  simp (disch := omega) only [neg_nI, l_0, l_1, l_2, l_3, l_4, l_5, l_6, l_7, l_8, l_9, l_10, l_11, l_12, l_13, l_14, l_15, l_16, l_17, l_18, l_19, l_20, l_21, l_22, l_23, l_24, l_25, l_26, l_27, l_28, l_29, l_30, l_31, l_32, l_33, l_34, l_35, l_36, l_37, l_38, l_39, l_40, l_41, l_100, l_160, l_300, l_999, l_1000, l_2000, Option.bind_some, nI_inj]
  by_cases c1 : pop P i = 9
  · rw [if_pos c1]
    by_cases c2 : pop P j = 9
    · rw [if_pos c2, e1, show gd3 P i j = _ from gw_t ⟨c1, Or.inl c2⟩]; rfl
    · rw [if_neg c2]
      by_cases c3 : pop P j = 8
      · rw [if_pos c3, e1, show gd3 P i j = _ from gw_t ⟨c1, Or.inr c3⟩]; rfl
      · rw [if_neg c3, e2, show gd3 P i j = _ from gw_f (by unfold gc3; omega)]
  · rw [if_neg c1, e2, show gd3 P i j = _ from gw_f (by unfold gc3; omega)]
theorem x9_g77 (h : rM σ P) {i j k : Nat} (hi : i < 40) (hj : j < 40) (hv : pV P i) (hw : pV P j) (hc : gc2 P i j) (hk : k = max 1 (latN (pop P i) + 1 - latN (pop P j))) : J_X9_distanceOf_77 σ (nI i) (nI j) (dv (gd1 P i j)) (if pop P j ≤ 8 then nI (pd P j) else mI 1) (nI k) = some (dv (gd P i j)) := by
  have e2 := x9_g92 h hi hj hv hw
  have eg : gd2 P i j = some (max ((gd1 P i j).getD 0) k) := by rw [hk]; exact gw_t hc
  rw [eg] at e2
  have hs := gd1_sm P i j
  have hk3 : 1 ≤ k ∧ k ≤ 3 := by have := latN_le (pop P i); have := latN_pos (pop P j); omega
  unfold J_X9_distanceOf_77 J_X9_distanceOf_91
  generalize gd1 P i j = g at *
  cases g with
  | none =>
    rw [if_neg (show ¬ nI k ≤ dv none from mI_nle (by decide) (by decide) (by omega))]
    rw [show max ((none : Option Nat).getD 0) k = k from Nat.max_eq_right (Nat.zero_le _)] at e2
    exact e2
  | some x =>
    have hx := hs x rfl
    rw [show dv (some x) = nI x from rfl]
    by_cases c : k ≤ x
    · rw [if_pos (show nI k ≤ nI x by rw [nI_lei (by omega) (by omega)]; exact c)]
      rw [show max ((some x).getD 0) k = x from Nat.max_eq_left c] at e2
      exact e2
    · rw [if_neg (show ¬ nI k ≤ nI x by rw [nI_lei (by omega) (by omega)]; exact c)]
      rw [show max ((some x).getD 0) k = k from Nat.max_eq_right (by show x ≤ k; omega)] at e2
      exact e2
theorem lat_diff2 {a b : Nat} (ha : a = 1 ∨ a = 2 ∨ a = 3) (hb : b = 1 ∨ b = 2 ∨ b = 3) : (nI 1 ≤ (nI a - nI b) + nI 1 ∧ (nI a - nI b) + nI 1 = nI (max 1 (a + 1 - b))) ∨ (¬ nI 1 ≤ (nI a - nI b) + nI 1 ∧ max 1 (a + 1 - b) = 1) := by
  rcases ha with rfl | rfl | rfl <;> rcases hb with rfl | rfl | rfl <;> decide
theorem x9_g38 (h : rM σ P) {i j : Nat} (hi : i < 40) (hj : j < 40) (hv : pV P i) (hw : pV P j) : J_X9_distanceOf_38 σ (nI i) (nI j) (dv (gd1 P i j)) (if pop P i ≤ 8 then nI (pd P i) else mI 1) (if pop P j ≤ 8 then nI (pd P j) else mI 1) = some (dv (gd P i j)) := by
  have e2 := x9_g92 h hi hj hv hw
  have v4 := hv.2.2.2.1
  have w4 := hw.2.2.2.1
  unfold J_X9_distanceOf_38
  rw [x9_lat h hi hv, x9_lat h hj hw]
  by_cases c1 : pop P i ≤ 8
  · rw [if_pos c1, if_neg (nI_pos (by omega))]
    by_cases c2 : gc2 P i j
    · have c3 := c2.2.2
      rw [if_pos (by rw [if_pos c2.2.1, c3])]
      simp only [neg_nI, l_0, l_1, l_2, l_3, l_4, l_5, l_6, l_7, l_8, l_9, l_10, l_11, l_12, l_13, l_14, l_15, l_16, l_17, l_18, l_19, l_20, l_21, l_22, l_23, l_24, l_25, l_26, l_27, l_28, l_29, l_30, l_31, l_32, l_33, l_34, l_35, l_36, l_37, l_38, l_39, l_40, l_41, l_100, l_160, l_300, l_999, l_1000, l_2000, Option.bind_some]
      rcases lat_diff2 (lat_cases (pop P i)) (lat_cases (pop P j)) with ⟨q1, q2⟩ | ⟨q1, q2⟩
      · rw [if_pos q1, q2]
        exact x9_g77 h hi hj hv hw c2 rfl
      · rw [if_neg q1]
        exact x9_g77 h hi hj hv hw c2 q2.symm
    · rw [show gd2 P i j = _ from gw_f c2] at e2
      rw [if_neg, e2]
      intro q
      by_cases c3 : pop P j ≤ 8
      · rw [if_pos c3, nI_inj (by omega) (by omega)] at q
        exact c2 ⟨c1, c3, q⟩
      · rw [if_neg c3] at q
        exact mI_ne (a := 1) (b := pd P i) (by decide) (by decide) (by omega) q
  · rw [show (if pop P i ≤ 8 then nI (pd P i) else mI 1) = mI 1 from if_neg c1, if_pos (show mI 1 < 0 from neg1_lt)]
    rw [show gd2 P i j = _ from gw_f (fun q => c1 q.1)] at e2
    exact e2
theorem x9_dist (h : rM σ P) {i j : Nat} (hi : i < 40) (hj : j < 40) (hv : pV P i) (hw : pV P j) : f_X9_distanceOf σ (nI i) (nI j) = some (dv (gd P i j)) := by
  have e := x9_g38 h hi hj hv hw
  have v4 := hv.2.2.2.1
  unfold f_X9_distanceOf
  rw [x9_wr h hi hv, x9_wr h hj hw, x9_lat h hi hv]
  simp only [Option.bind_some]
  by_cases c1 : pop P i ≤ 8
  · rw [if_pos c1] at e ⊢
    rw [if_neg (nI_pos (by omega))]
    by_cases c2 : rdP P j (pd P i)
    · rw [(x9_rd h hj v4 hw).1 c2, Option.bind_some, if_neg (show ¬ nI 1 = 0 by decide)]
      rw [show gd1 P i j = _ from gw_t ⟨c1, c2⟩] at e
      exact e
    · rw [(x9_rd h hj v4 hw).2 c2, Option.bind_some, if_pos (show nI 0 = 0 from rfl)]
      rw [show gd1 P i j = _ from gw_f (fun q => c2 q.2)] at e
      exact e
  · rw [if_neg c1] at e ⊢
    rw [if_pos (show mI 1 < 0 from neg1_lt)]
    rw [show gd1 P i j = _ from gw_f (fun q => c1 q.1)] at e
    exact e
end
