/-! BLOCKS: both sides cut the program alike -/
noncomputable def cif {α : Type} (c : Prop) (x y : α) : α := @ite α c (Classical.propDecidable c) x y
theorem cif_t {α : Type} {c : Prop} {x y : α} (h : c) : cif c x y = x := @if_pos _ (Classical.propDecidable c) h _ x y
theorem cif_f {α : Type} {c : Prop} {x y : α} (h : ¬ c) : cif c x y = y := @if_neg _ (Classical.propDecidable c) h _ x y
theorem cif_c {α : Type} {c d : Prop} {x y : α} (h : c ↔ d) : cif c x y = cif d x y := by rw [propext h]
theorem cif_01 {c : Prop} : cif c (nI 1) (nI 0) = nI 0 ∨ cif c (nI 1) (nI 0) = nI 1 := by
  by_cases h : c
  · rw [cif_t h]; exact Or.inr rfl
  · rw [cif_f h]; exact Or.inl rfl
/-- a boolean answer -/
noncomputable def tf (c : Prop) : Int32 := cif c (nI 1) (nI 0)
theorem tf_t {c : Prop} (h : c) : tf c = nI 1 := cif_t h
theorem tf_f {c : Prop} (h : ¬ c) : tf c = nI 0 := cif_f h
theorem tf_01 (c : Prop) : tf c = 0 ∨ tf c = 1 := cif_01
theorem tf_c {c d : Prop} (h : c ↔ d) : tf c = tf d := cif_c h
theorem tf_0 {c : Prop} : (tf c = 0) = ¬ c := by
  by_cases h : c
  · rw [tf_t h]; exact propext ⟨fun e => absurd e (by decide), fun e => absurd h e⟩
  · rw [tf_f h]; exact propext ⟨fun _ => h, fun _ => rfl⟩
theorem tf_if {c : Prop} {i : Decidable c} : (if c then nI 1 else nI 0) = tf c := by
  by_cases h : c
  · rw [if_pos h, tf_t h]
  · rw [if_neg h, tf_f h]
/-- a test of a boolean answer -/
theorem if_tf {α : Type} {c : Prop} {x y : α} : (if tf c = 0 then x else y) = cif c y x := by
  by_cases h : c
  · rw [if_neg (by rw [tf_0]; exact fun a => a h), cif_t h]
  · rw [if_pos (by rw [tf_0]; exact h), cif_f h]
theorem nz_tf {α : Type} {c : Prop} {x y : α} : (if tf c = 0 ∨ tf c = 1 then x else y) = x := if_pos (tf_01 c)
theorem tf_and {c d : Prop} : tf c &&& tf d = tf (c ∧ d) := by
  by_cases h : c
  · by_cases h2 : d
    · rw [tf_t h, tf_t h2, tf_t ⟨h, h2⟩]; rfl
    · rw [tf_t h, tf_f h2, tf_f (fun a => h2 a.2)]; rfl
  · by_cases h2 : d
    · rw [tf_f h, tf_t h2, tf_f (fun a => h a.1)]; rfl
    · rw [tf_f h, tf_f h2, tf_f (fun a => h a.1)]; rfl
theorem tf_or {c d : Prop} : tf c ||| tf d = tf (c ∨ d) := by
  by_cases h : c
  · by_cases h2 : d
    · rw [tf_t h, tf_t h2, tf_t (Or.inl h)]; rfl
    · rw [tf_t h, tf_f h2, tf_t (Or.inl h)]; rfl
  · by_cases h2 : d
    · rw [tf_f h, tf_t h2, tf_t (Or.inr h2)]; rfl
    · rw [tf_f h, tf_f h2, tf_f (fun a => a.elim h h2)]; rfl
theorem nar_tf (c : Prop) : vp_nar .boolean (tf c) = tf c := by
  by_cases h : c
  · rw [tf_t h]; rfl
  · rw [tf_f h]; rfl
def hasTP (P : gP) (t : Nat) : Prop := pop P t = 10 ∨ pop P t = 11
/-- the program is complete -/
def cmpl (P : gP) (n : Nat) : Prop := ∀ t, t < n → hasTP P t → pa P t < n
/-- an instruction begins a block -/
def begP (P : gP) (n k : Nat) : Prop := k = 0 ∨ 10 ≤ pop P (k - 1) ∨ ∃ t, t < n ∧ hasTP P t ∧ pa P t = k
/-- the beginnings below m -/
noncomputable def begs (P : gP) (n : Nat) : Nat → List Nat
  | 0 => []
  | m + 1 => cif (begP P n m) (begs P n m ++ [m]) (begs P n m)
noncomputable def nb (P : gP) (n m : Nat) : Nat := (begs P n m).length
/-- the first instruction of block t; behind the last block the size -/
noncomputable def bgn (P : gP) (n t : Nat) : Nat := (begs P n n).getD t n
theorem begs_t {P : gP} {n m : Nat} (h : begP P n m) : begs P n (m + 1) = begs P n m ++ [m] := cif_t h
theorem begs_f {P : gP} {n m : Nat} (h : ¬ begP P n m) : begs P n (m + 1) = begs P n m := cif_f h
theorem nb_t {P : gP} {n m : Nat} (h : begP P n m) : nb P n (m + 1) = nb P n m + 1 := by
  unfold nb; rw [begs_t h, List.length_append]; rfl
theorem nb_f {P : gP} {n m : Nat} (h : ¬ begP P n m) : nb P n (m + 1) = nb P n m := by
  unfold nb; rw [begs_f h]
theorem nb_le (P : gP) (n m : Nat) : nb P n m ≤ m := by
  induction m with
  | zero => exact Nat.le_refl 0
  | succ m ih =>
    by_cases h : begP P n m
    · rw [nb_t h]; omega
    · rw [nb_f h]; omega
theorem nb_one (P : gP) (n m : Nat) : 1 ≤ nb P n (m + 1) := by
  induction m with
  | zero => rw [nb_t (Or.inl rfl)]; omega
  | succ m ih =>
    by_cases h : begP P n (m + 1)
    · rw [nb_t h]; omega
    · rw [nb_f h]; exact ih
theorem rI_fr {σ σ' : sg} {P : gP} (h : rI σ P) (e : ∀ r, 3 ≤ r → r < 43 → σ' r = σ r) : rI σ' P := fun i j hi hj => by
  rw [e _ (by omega) (by omega)]; exact h i j hi hj
theorem rM_fr {σ σ' : sg} {P : gP} (h : rM σ P) (e : ∀ r, 159 ≤ r → r < 199 → σ' r = σ r) : rM σ' P := fun i j hi hj => by
  rw [e _ (by omega) (by omega)]; exact h i j hi hj
def BKI (σ : sg) (P : gP) (n : Nat) : Prop := σ 57 3 = nI (nb P n n) ∧ (∀ i, i < n → σ 59 i = nI (nb P n (i + 1) - 1)) ∧ ∀ t, t ≤ nb P n n → σ 58 t = nI (bgn P n t)
def BKM (σ : sg) (P : gP) (n : Nat) : Prop := σ 157 7 = nI (nb P n n) ∧ (∀ i, i < n → σ 611 i = nI (nb P n (i + 1) - 1)) ∧ ∀ t, t ≤ nb P n n → σ 612 t = nI (bgn P n t)
section
variable {σ : sg} {P : gP} {n : Nat}
theorem tgt_toInt {i : Nat} (hv : pV P i) (ht : hasTP P i) : P i 2 = nI (pa P i) ∧ pa P i < 40 := by
  have h0 : pop P i ≠ 0 := by rcases ht with h | h <;> omega
  exact ⟨(hv.2.2.2.2.2.2 h0).1, (hv.2.2.2.2.2.2 h0).2.1⟩
theorem x6_hasTt (h : rI σ P) {i : Nat} (hi : i < 40) (hv : pV P i) : f_X6_hasTarget σ (nI i) = some (tf (hasTP P i)) := by
  rw [x6_hasT h hi hv, tf_if]; rfl
theorem x6_exitt (h : rI σ P) {i : Nat} (hi : i < 40) (hv : pV P i) : f_X6_isExit σ (nI i) = some (tf (10 ≤ pop P i)) := by
  rw [x6_exit h hi hv, tf_if]
theorem x6_hasNt {i : Nat} (hn : σ 1 1 = nI n) (hn40 : n ≤ 40) (hi : i < 2147483648) : f_X6_has σ (nI i) = some (tf (i < n)) := by
  rw [x6_hasN hn hn40 hi, tf_if]
theorem x9_hasTt (h : rM σ P) {i : Nat} (hi : i < 40) (hv : pV P i) : f_X9_hasTarget σ (nI i) = some (tf (hasTP P i)) := by
  rw [x9_hasT h hi hv, tf_if]; rfl
theorem x9_exitt (h : rM σ P) {i : Nat} (hi : i < 40) (hv : pV P i) : f_X9_isExit σ (nI i) = some (tf (10 ≤ pop P i)) := by
  rw [x9_exit h hi hv, tf_if]
theorem x9_thereNt {i : Nat} (hn : σ 157 0 = nI n) (hn40 : n ≤ 40) (hi : i < 2147483648) : f_X9_isThere σ (nI i) = some (tf (i < n)) := by
  rw [x9_thereN hn hn40 hi, tf_if]
theorem x1_all (hI : rI σ P) (hn : σ 1 1 = nI n) (hn40 : n ≤ 40) (hV : pVs P) : f_X1_hasAllTargets σ = some (tf (cmpl P n)) := by
  unfold f_X1_hasAllTargets L_X1_hasAllTargets_2
  obtain ⟨b, h1, h2⟩ := loop_k1 (F := B_X1_hasAllTargets_2 σ) n (fun k => ∀ t, t < k → hasTP P t → pa P t < n) (fun b => b = tf (cmpl P n)) (fun k hk hall => by
    unfold B_X1_hasAllTargets_2 J_X1_hasAllTargets_32
    rw [hn]
    by_cases hkn : n ≤ k
    · refine Or.inr ⟨nI 1, if_pos (by rw [nI_lei (by omega) (by omega)]; exact hkn), ?_⟩
      exact (tf_t (show cmpl P n from fun t ht => hall t (by omega))).symm
    · rw [if_neg (by rw [nI_lei (by omega) (by omega)]; exact hkn), x6_hasTt hI (by omega) (hV k (by omega)), Option.bind_some, if_tf]
      by_cases ht : hasTP P k
      · rw [cif_t ht, x6_tgt hI (by omega), Option.bind_some]
        obtain ⟨e1, e2⟩ := tgt_toInt (hV k (by omega)) ht
        rw [e1, x6_hasNt hn hn40 (by omega), Option.bind_some, if_tf]
        by_cases hp : pa P k < n
        · rw [cif_t hp]
          refine Or.inl ⟨by rw [l_1, nI_add], by omega, fun t h3 h4 => ?_⟩
          rcases Nat.lt_or_ge t k with h5 | h5
          · exact hall t h5 h4
          · have : t = k := by omega
            subst this; exact hp
        · rw [cif_f hp]
          refine Or.inr ⟨nI 0, rfl, ?_⟩
          exact (tf_f (show ¬ cmpl P n from fun a => hp (a k (by omega) ht))).symm
      · rw [cif_f ht]
        refine Or.inl ⟨by rw [l_1, nI_add], by omega, fun t h3 h4 => ?_⟩
        rcases Nat.lt_or_ge t k with h5 | h5
        · exact hall t h5 h4
        · have : t = k := by omega
          subst this; exact absurd h4 ht) (fu := gN) (gN_gt (by omega)) (fun t h => absurd h (Nat.not_lt_zero t))
  rw [l_0, h1, h2]
theorem x1_mark2 (hI : rI σ P) (hn : σ 1 1 = nI n) (hn40 : n ≤ 40) (hV : pVs P) (hc : cmpl P n) (h60 : ∀ j, j < n → σ 60 j = tf (j = 0 ∨ 10 ≤ pop P (j - 1))) : ∃ σ', L_X1_markBegins_43 gN (0, σ) = some σ' ∧ (∀ r, r ≠ 60 → σ' r = σ r) ∧ ∀ j, j < n → σ' 60 j = tf (begP P n j) := by
  unfold L_X1_markBegins_43
  rw [l_0]
  refine loop_k2 (F := B_X1_markBegins_43) n (fun k τ => (∀ r, r ≠ 60 → τ r = σ r) ∧ ∀ j, j < n → τ 60 j = tf (j = 0 ∨ 10 ≤ pop P (j - 1) ∨ ∃ t, t < k ∧ hasTP P t ∧ pa P t = j)) (fun b => (∀ r, r ≠ 60 → b r = σ r) ∧ ∀ j, j < n → b 60 j = tf (begP P n j)) (fun k τ hk hI2 => ?_) (fu := gN) (gN_gt (by omega)) ⟨fun _ _ => rfl, fun j hj => ?_⟩
  · obtain ⟨h2, h3⟩ := hI2
    have hI' : rI τ P := rI_fr hI (fun r a b => h2 r (by omega))
    unfold B_X1_markBegins_43 J_X1_markBegins_70
    rw [h2 1 (by decide), hn]
    by_cases hkn : n ≤ k
    · refine Or.inr ⟨τ, if_pos (by rw [nI_lei (by omega) (by omega)]; exact hkn), h2, fun j hj => ?_⟩
      have : k = n := by omega
      subst this
      exact h3 j hj
    · rw [if_neg (by rw [nI_lei (by omega) (by omega)]; exact hkn), x6_hasTt hI' (by omega) (hV k (by omega)), Option.bind_some, if_tf]
      by_cases ht : hasTP P k
      · rw [cif_t ht, x6_tgt hI' (by omega), Option.bind_some]
        obtain ⟨e1, e2⟩ := tgt_toInt (hV k (by omega)) ht
        have hp := hc k (by omega) ht
        rw [e1, stz_60 e2, Option.bind_some]
        refine Or.inl ⟨up τ 60 (pa P k) (nI 1), by rw [l_1, nI_add, nar_1], by omega, fun r hr => by rw [up_r hr]; exact h2 r hr, fun j hj => ?_⟩
        by_cases hjp : j = pa P k
        · subst hjp
          show up τ 60 (pa P k) (nI 1) 60 (pa P k) = _
          rw [up_same, tf_t (Or.inr (Or.inr ⟨k, by omega, ht, rfl⟩))]
        · show up τ 60 (pa P k) (nI 1) 60 j = _
          rw [up_k hjp, h3 j hj]
          refine tf_c ⟨fun a => a.imp id (Or.imp id (fun ⟨t, q1, q2, q3⟩ => ⟨t, by omega, q2, q3⟩)), fun a => a.imp id (Or.imp id (fun ⟨t, q1, q2, q3⟩ => ⟨t, ?_, q2, q3⟩))⟩
          rcases Nat.lt_or_ge t k with h5 | h5
          · exact h5
          · have : t = k := by omega
            subst this; exact absurd q3.symm hjp
      · rw [cif_f ht]
        refine Or.inl ⟨τ, by rw [l_1, nI_add], by omega, h2, fun j hj => ?_⟩
        show τ 60 j = _
        rw [h3 j hj]
        refine tf_c ⟨fun a => a.imp id (Or.imp id (fun ⟨t, q1, q2, q3⟩ => ⟨t, by omega, q2, q3⟩)), fun a => a.imp id (Or.imp id (fun ⟨t, q1, q2, q3⟩ => ⟨t, ?_, q2, q3⟩))⟩
        rcases Nat.lt_or_ge t k with h5 | h5
        · exact h5
        · have : t = k := by omega
          subst this; exact absurd q2 ht
  · rw [h60 j hj]
    exact tf_c ⟨fun a => a.imp id Or.inl, fun a => a.imp id (fun b => b.elim id (fun ⟨t, q1, _⟩ => absurd q1 (Nat.not_lt_zero t)))⟩
theorem x1_mark (hI : rI σ P) (hn : σ 1 1 = nI n) (hn40 : n ≤ 40) (hV : pVs P) (hc : cmpl P n) : ∃ σ', f_X1_markBegins σ = some σ' ∧ (∀ r, r ≠ 60 → σ' r = σ r) ∧ ∀ j, j < n → σ' 60 j = tf (begP P n j) := by
  unfold f_X1_markBegins L_X1_markBegins_2
  rw [l_0]
  refine loop_k2 (F := B_X1_markBegins_2) n (fun k τ => (∀ r, r ≠ 60 → τ r = σ r) ∧ ∀ j, j < k → τ 60 j = tf (j = 0 ∨ 10 ≤ pop P (j - 1))) (fun b => (∀ r, r ≠ 60 → b r = σ r) ∧ ∀ j, j < n → b 60 j = tf (begP P n j)) (fun k τ hk hI2 => ?_) (fu := gN) (gN_gt (by omega)) ⟨fun _ _ => rfl, fun j hj => absurd hj (Nat.not_lt_zero j)⟩
  obtain ⟨h2, h3⟩ := hI2
  have hI' : rI τ P := rI_fr hI (fun r a b => h2 r (by omega))
  unfold B_X1_markBegins_2 J_X1_markBegins_29 J_X1_markBegins_34
  rw [h2 1 (by decide), hn]
  by_cases hkn : n ≤ k
  · have : k = n := by omega
    subst this
    obtain ⟨σ', q1, q2, q3⟩ := x1_mark2 hI' (by rw [h2 1 (by decide)]; exact hn) hn40 hV hc h3
    refine Or.inr ⟨σ', ?_, fun r hr => by rw [q2 r hr]; exact h2 r hr, q3⟩
    rw [if_pos (by rw [nI_lei (by omega) (by omega)]; exact hkn), q1]
    rfl
  · rw [if_neg (by rw [nI_lei (by omega) (by omega)]; exact hkn)]
    have step : ∀ c : Prop, (c ↔ (k = 0 ∨ 10 ≤ pop P (k - 1))) → (∀ r, r ≠ 60 → up τ 60 k (tf c) r = σ r) ∧ ∀ j, j < k + 1 → up τ 60 k (tf c) 60 j = tf (j = 0 ∨ 10 ≤ pop P (j - 1)) := fun c hcc => ⟨fun r hr => by rw [up_r hr]; exact h2 r hr, fun j hj => by
      by_cases hjk : j = k
      · subst hjk
        rw [up_same]
        exact tf_c hcc
      · rw [up_k hjk]
        exact h3 j (by omega)⟩
    by_cases hk0 : k = 0
    · subst hk0
      rw [if_pos (show nI 0 = 0 from rfl), stz_60 (by decide), Option.bind_some]
      have q := step True ⟨fun _ => Or.inl rfl, fun _ => trivial⟩
      rw [tf_t trivial] at q
      exact Or.inl ⟨up τ 60 0 (nI 1), rfl, by omega, q⟩
    · rw [if_neg (show ¬ nI k = 0 by rw [l_0, nI_inj (by omega) (by omega)]; exact hk0), l_1, nI_sub (by omega), x6_exitt hI' (by omega) (hV _ (by omega)), Option.bind_some, if_tf]
      have q := step (10 ≤ pop P (k - 1)) ⟨Or.inr, fun a => a.elim (fun b => absurd b hk0) id⟩
      by_cases hx : 10 ≤ pop P (k - 1)
      · rw [cif_t hx, stz_60 (by omega), Option.bind_some, nar_1]
        rw [tf_t hx] at q
        exact Or.inl ⟨up τ 60 k (nI 1), by rw [nI_add], by omega, q⟩
      · rw [cif_f hx, l_0, stz_60 (by omega), Option.bind_some, nar_0]
        rw [tf_f hx] at q
        exact Or.inl ⟨up τ 60 k (nI 0), by rw [nI_add], by omega, q⟩
/-- what numbering the blocks leaves, on either side -/
theorem getD_last {l : List Nat} {k d : Nat} : (l ++ [k]).getD l.length d = k := by
  rw [List.getD_eq_getElem?_getD, List.getElem?_append_right (Nat.le_refl _), Nat.sub_self]
  rfl
theorem getD_left {l : List Nat} {k d t : Nat} (h : t < l.length) : (l ++ [k]).getD t d = l.getD t d := by
  rw [List.getD_eq_getElem?_getD, List.getD_eq_getElem?_getD, List.getElem?_append_left h]
theorem getD_out {l : List Nat} {d t : Nat} (h : l.length ≤ t) : l.getD t d = d := by
  rw [List.getD_eq_getElem?_getD, List.getElem?_eq_none h]
  rfl
theorem x1_num (hn : σ 1 1 = nI n) (hn40 : n ≤ 40) (h3 : σ 57 3 = nI 0) (h60 : ∀ j, j < n → σ 60 j = tf (begP P n j)) : ∃ σ', f_X1_numberBlocks σ (nI n) = some σ' ∧ (∀ r, r ≠ 57 → r ≠ 58 → r ≠ 59 → σ' r = σ r) ∧ (∀ k, k ≠ 3 → σ' 57 k = σ 57 k) ∧ BKI σ' P n := by
  unfold f_X1_numberBlocks L_X1_numberBlocks_2
  rw [l_0]
  refine loop_k2 (F := B_X1_numberBlocks_2 (nI n)) n (fun k τ => (∀ r, r ≠ 57 → r ≠ 58 → r ≠ 59 → τ r = σ r) ∧ (∀ k, k ≠ 3 → τ 57 k = σ 57 k) ∧ τ 57 3 = nI (nb P n k) ∧ (∀ i, i < k → τ 59 i = nI (nb P n (i + 1) - 1)) ∧ ∀ t, t < nb P n k → τ 58 t = nI ((begs P n k).getD t n)) (fun b => (∀ r, r ≠ 57 → r ≠ 58 → r ≠ 59 → b r = σ r) ∧ (∀ k, k ≠ 3 → b 57 k = σ 57 k) ∧ BKI b P n) (fun k τ hk hI2 => ?_) (fu := gN) (gN_gt (by omega)) ⟨fun _ _ _ _ => rfl, fun _ _ => rfl, h3, fun j hj => absurd hj (Nat.not_lt_zero j), fun j hj => absurd hj (Nat.not_lt_zero j)⟩
  obtain ⟨h2, h4, h5, h6, h7⟩ := hI2
  have hle := nb_le P n k
  unfold B_X1_numberBlocks_2 J_X1_numberBlocks_36
  by_cases hkn : n ≤ k
  · have : k = n := by omega
    subst this
    refine Or.inr ⟨up τ 58 (nb P k k) (nI k), ?_, fun r a b c => by rw [up_r b]; exact h2 r a b c, fun j hj => by rw [up_r (by decide)]; exact h4 j hj, ?_, fun i hi => ?_, fun t ht => ?_⟩
    · rw [if_pos (by rw [nI_lei (by omega) (by omega)]; exact hkn), h5, st_58 (by omega), Option.bind_some]
    · rw [up_r (by decide)]; exact h5
    · rw [up_r (by decide)]; exact h6 i hi
    · unfold bgn
      by_cases e : t = nb P k k
      · subst e
        rw [up_same, getD_out (show (begs P k k).length ≤ nb P k k from Nat.le_refl _)]
      · rw [up_k e]
        exact h7 t (by omega)
  · rw [if_neg (by rw [nI_lei (by omega) (by omega)]; exact hkn), ldz_60 (by omega), Option.bind_some, h2 60 (by decide) (by decide) (by decide), h60 k (by omega), if_tf]
    by_cases hb : begP P n k
    · rw [cif_t hb, h5, st_58 (by omega), Option.bind_some, Option.bind_some]
      have e1 : up τ 58 (nb P n k) (nI k) 57 3 = nI (nb P n k) := by rw [up_r (by decide)]; exact h5
      rw [e1, l_1, nI_add, up_same, nI_sub (by omega), st_59 (by omega), Option.bind_some, nI_add]
      refine Or.inl ⟨_, rfl, by omega, fun r a b c => ?_, fun j hj => ?_, ?_, fun i hi => ?_, fun t ht => ?_⟩
      · rw [up_r c, up_r a, up_r b]; exact h2 r a b c
      · rw [up_r (by decide), up_k hj, up_r (by decide)]; exact h4 j hj
      · rw [up_r (by decide), up_same, nb_t hb]
      · by_cases e : i = k
        · subst e
          rw [up_same, nb_t hb]
        · rw [up_k e, up_r (by decide), up_r (by decide)]; exact h6 i (by omega)
      · rw [up_r (by decide), up_r (by decide), begs_t hb]
        rw [nb_t hb] at ht
        by_cases e : t = nb P n k
        · subst e
          rw [up_same]
          unfold nb
          rw [getD_last]
        · rw [up_k e, getD_left (show t < nb P n k by omega)]
          exact h7 t (by omega)
    · rw [cif_f hb, h5, l_1]
      have hk0 : 0 < k := by
        rcases Nat.eq_zero_or_pos k with e | e
        · exact absurd (Or.inl e) hb
        · exact e
      have h1 : 1 ≤ nb P n k := by
        obtain ⟨k', rfl⟩ : ∃ k', k = k' + 1 := ⟨k - 1, by omega⟩
        exact nb_one P n k'
      rw [nI_sub h1, st_59 (by omega), Option.bind_some, nI_add]
      refine Or.inl ⟨_, rfl, by omega, fun r a b c => ?_, fun j hj => ?_, ?_, fun i hi => ?_, fun t ht => ?_⟩
      · rw [up_r c]; exact h2 r a b c
      · rw [up_r (by decide)]; exact h4 j hj
      · rw [up_r (by decide), nb_f hb]; exact h5
      · by_cases e : i = k
        · subst e
          rw [up_same, nb_f hb]
        · rw [up_k e]; exact h6 i (by omega)
      · rw [up_r (by decide), begs_f hb]
        rw [nb_f hb] at ht
        exact h7 t ht
theorem x1_cut (hI : rI σ P) (hn : σ 1 1 = nI n) (hn40 : n ≤ 40) (hV : pVs P) : ∃ σ', f_X1_cut σ = some σ' ∧ (∀ r, r ≠ 57 → r ≠ 58 → r ≠ 59 → r ≠ 60 → σ' r = σ r) ∧ σ' 57 4 = tf (cmpl P n) ∧ (cmpl P n → BKI σ' P n) ∧ (¬ cmpl P n → σ' 57 3 = nI 0) := by
  unfold f_X1_cut
  rw [Option.bind_some]
  have hI1 : rI (up σ 57 3 0) P := rI_fr hI (fun r a b => up_r (by omega))
  have hn1 : up σ 57 3 0 1 1 = nI n := by rw [up_r (by decide)]; exact hn
  rw [x1_all hI1 hn1 hn40 hV, Option.bind_some, nz_tf, Option.bind_some, up_same, if_tf]
  by_cases hc : cmpl P n
  · rw [cif_t hc, tf_t hc]
    have hI2 : rI (up (up σ 57 3 0) 57 4 (nI 1)) P := rI_fr hI1 (fun r a b => up_r (by omega))
    have hn2 : up (up σ 57 3 0) 57 4 (nI 1) 1 1 = nI n := by rw [up_r (by decide)]; exact hn1
    obtain ⟨τ, t1, t2, t3⟩ := x1_mark hI2 hn2 hn40 hV hc
    rw [t1, Option.bind_some]
    have hnt : τ 1 1 = nI n := by rw [t2 1 (by decide)]; exact hn2
    have h3 : τ 57 3 = nI 0 := by rw [t2 57 (by decide), up_k (by decide), up_same]; rfl
    have h4 : τ 57 4 = nI 1 := by rw [t2 57 (by decide), up_same]
    obtain ⟨σ', s1, s2, s3, s4⟩ := x1_num hnt hn40 h3 t3
    rw [hnt, s1]
    refine ⟨σ', rfl, fun r a b c d => ?_, ?_, fun _ => s4, fun q => absurd hc q⟩
    · rw [s2 r a b c, t2 r d, up_r a, up_r a]
    · rw [s3 4 (by decide)]; exact h4
  · rw [cif_f hc, tf_f hc]
    refine ⟨_, rfl, fun r a b c d => ?_, ?_, fun q => absurd q hc, fun _ => ?_⟩
    · rw [up_r a, up_r a]
    · rw [up_same]
    · rw [up_k (by decide), up_same]; rfl
end
