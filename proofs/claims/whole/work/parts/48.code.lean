/-! THE CODE, in the abstract -/
/-- length, numbers, beginnings of the blocks -/
abbrev CD := Nat × (Nat → Int32) × (Nat → Nat)
def apn (v : Int32) (s : CD) : CD := (s.1 + 1, (fun k => if k = s.1 then v else s.2.1 k), s.2.2)
def wrN (sl : Nat → Int32) : Nat → CD → CD
  | 0, s => s
  | j + 1, s => if sl j = mI 4 then wrN sl j s else apn (sl j) (wrN sl j s)
def btN (sl : Nat → Int32) : Nat → Nat
  | 0 => 0
  | j + 1 => if sl j = mI 4 then btN sl j else btN sl j + 2 ^ j
def hdV (v : Int32) (sl : Nat → Int32) (J : Nat) : Int32 := nI 8 * v + nI 1000 + nI (btN sl J)
def cNew (BL : Nat → Int32) (i : Nat) : Prop := i = 0 ∨ BL i ≠ BL (i - 1)
def empS (SL : Nat → Nat → Int32) (i : Nat) : Prop := btN (SL i) 3 = 0
noncomputable def cdA (BL : Nat → Int32) (i : Nat) (s : CD) : CD := cif (cNew BL i) (s.1, s.2.1, fun u => if u = ixs (BL i) then s.1 else s.2.2 u) s
noncomputable def cd1 (TM BL : Nat → Int32) (SL : Nat → Nat → Int32) (i : Nat) (s : CD) : CD := cif (empS SL i) (cif (¬ cNew BL i ∧ empS SL (i - 1)) (s.1, (fun k => if k = s.1 - 1 then s.2.1 k - nI 1 else s.2.1 k), s.2.2) (apn (mI 1) (cdA BL i s))) (wrN (SL i) 3 (apn (hdV (TM i) (SL i) 3) (cdA BL i s)))
noncomputable def cdN (TM BL : Nat → Int32) (SL : Nat → Nat → Int32) : Nat → CD
  | 0 => (0, (fun _ => 0), fun _ => 0)
  | i + 1 => cd1 TM BL SL i (cdN TM BL SL i)
theorem wrN_len {sl : Nat → Int32} (J : Nat) {s : CD} : (wrN sl J s).1 = s.1 + flN sl J := by
  induction J with
  | zero => rfl
  | succ J ih =>
    show (if sl J = mI 4 then wrN sl J s else apn (sl J) (wrN sl J s)).1 = s.1 + (if sl J = mI 4 then flN sl J else flN sl J + 1)
    by_cases c : sl J = mI 4
    · rw [if_pos c, if_pos c]; exact ih
    · rw [if_neg c, if_neg c]
      show (wrN sl J s).1 + 1 = _
      omega
theorem wrN_lo {sl : Nat → Int32} (J : Nat) {s : CD} {k : Nat} (h : k < s.1) : (wrN sl J s).2.1 k = s.2.1 k := by
  induction J with
  | zero => rfl
  | succ J ih =>
    show (if sl J = mI 4 then wrN sl J s else apn (sl J) (wrN sl J s)).2.1 k = _
    by_cases c : sl J = mI 4
    · rw [if_pos c]; exact ih
    · rw [if_neg c]
      have := wrN_len (sl := sl) J (s := s)
      exact Eq.trans (if_neg (by omega)) ih
theorem wrN_b {sl : Nat → Int32} (J : Nat) {s : CD} : (wrN sl J s).2.2 = s.2.2 := by
  induction J with
  | zero => rfl
  | succ J ih =>
    show (if sl J = mI 4 then wrN sl J s else apn (sl J) (wrN sl J s)).2.2 = _
    by_cases c : sl J = mI 4
    · rw [if_pos c]; exact ih
    · rw [if_neg c]; exact ih
/-- the head alone differs -/
theorem wrN_hd {sl : Nat → Int32} {v w : Int32} {s : CD} {k : Nat} (h : k ≠ s.1) (J : Nat) : (wrN sl J (apn v s)).2.1 k = (wrN sl J (apn w s)).2.1 k := by
  induction J with
  | zero => exact Eq.trans (if_neg h) (if_neg h).symm
  | succ J ih =>
    show (if sl J = mI 4 then wrN sl J (apn v s) else apn (sl J) (wrN sl J (apn v s))).2.1 k = (if sl J = mI 4 then wrN sl J (apn w s) else apn (sl J) (wrN sl J (apn w s))).2.1 k
    by_cases c : sl J = mI 4
    · rw [if_pos c, if_pos c]; exact ih
    · rw [if_neg c, if_neg c]
      show (if k = (wrN sl J (apn v s)).1 then sl J else (wrN sl J (apn v s)).2.1 k) = (if k = (wrN sl J (apn w s)).1 then sl J else (wrN sl J (apn w s)).2.1 k)
      rw [wrN_len, wrN_len, ih]
      rfl
theorem btN_lt (sl : Nat → Int32) (J : Nat) : btN sl J < 2 ^ J := by
  induction J with
  | zero => exact Nat.one_pos
  | succ J ih =>
    show (if sl J = mI 4 then btN sl J else btN sl J + 2 ^ J) < 2 ^ (J + 1)
    rw [Nat.pow_succ]
    by_cases c : sl J = mI 4
    · rw [if_pos c]; omega
    · rw [if_neg c]; omega
theorem btN_0 {sl : Nat → Int32} (J : Nat) : btN sl J = 0 ↔ ∀ j, j < J → sl j = mI 4 := by
  induction J with
  | zero => exact ⟨fun _ j hj => absurd hj (Nat.not_lt_zero j), fun _ => rfl⟩
  | succ J ih =>
    show (if sl J = mI 4 then btN sl J else btN sl J + 2 ^ J) = 0 ↔ _
    by_cases c : sl J = mI 4
    · rw [if_pos c, ih]
      refine ⟨fun h j hj => ?_, fun h j hj => h j (by omega)⟩
      by_cases e : j = J
      · rw [e]; exact c
      · exact h j (by omega)
    · rw [if_neg c]
      have := Nat.pow_pos (n := J) (show 0 < 2 by decide)
      exact ⟨fun h => absurd h (by omega), fun h => absurd (h J (Nat.lt_succ_self J)) c⟩
theorem flN_0 {sl : Nat → Int32} (J : Nat) : flN sl J = 0 ↔ ∀ j, j < J → sl j = mI 4 := by
  induction J with
  | zero => exact ⟨fun _ j hj => absurd hj (Nat.not_lt_zero j), fun _ => rfl⟩
  | succ J ih =>
    show (if sl J = mI 4 then flN sl J else flN sl J + 1) = 0 ↔ _
    by_cases c : sl J = mI 4
    · rw [if_pos c, ih]
      refine ⟨fun h j hj => ?_, fun h j hj => h j (by omega)⟩
      by_cases e : j = J
      · rw [e]; exact c
      · exact h j (by omega)
    · rw [if_neg c]
      exact ⟨fun h => absurd h (by omega), fun h => absurd (h J (Nat.lt_succ_self J)) c⟩
theorem btN_or {sl : Nat → Int32} {J : Nat} (hJ : J < 3) : nI (btN sl J) ||| (nI 1 <<< (nI J &&& 31)) = nI (btN sl J + 2 ^ J) := by
  have h := btN_lt sl J
  rcases (show J = 0 ∨ J = 1 ∨ J = 2 by omega) with rfl | rfl | rfl
  · have : btN sl 0 = 0 := rfl
    rw [this]; rfl
  · rcases (show btN sl 1 = 0 ∨ btN sl 1 = 1 by omega) with e | e <;> rw [e] <;> rfl
  · rcases (show btN sl 2 = 0 ∨ btN sl 2 = 1 ∨ btN sl 2 = 2 ∨ btN sl 2 = 3 by omega) with e | e | e | e <;> rw [e] <;> rfl
theorem sh1 {J : Nat} (hJ : J < 3) : (nI 1 <<< (nI J &&& 31)) = nI (2 ^ J) := by
  rcases (show J = 0 ∨ J = 1 ∨ J = 2 by omega) with rfl | rfl | rfl <;> rfl
theorem cdA_1 {BL : Nat → Int32} {i : Nat} {s : CD} : (cdA BL i s).1 = s.1 := by
  unfold cdA
  by_cases c : cNew BL i
  · rw [cif_t c]
  · rw [cif_f c]
theorem cdA_2 {BL : Nat → Int32} {i : Nat} {s : CD} : (cdA BL i s).2.1 = s.2.1 := by
  unfold cdA
  by_cases c : cNew BL i
  · rw [cif_t c]
  · rw [cif_f c]
theorem cdN_len {TM BL : Nat → Int32} {SL : Nat → Nat → Int32} (c : Nat) : (cdN TM BL SL c).1 ≤ c + flS SL c ∧ (0 < c → 0 < (cdN TM BL SL c).1) := by
  induction c with
  | zero => exact ⟨Nat.le_refl 0, fun h => absurd h (Nat.lt_irrefl 0)⟩
  | succ c ih =>
    show (cd1 TM BL SL c (cdN TM BL SL c)).1 ≤ c + 1 + (flS SL c + flN (SL c) 3) ∧ (0 < c + 1 → 0 < (cd1 TM BL SL c (cdN TM BL SL c)).1)
    unfold cd1
    obtain ⟨i1, i2⟩ := ih
    by_cases h : empS SL c
    · rw [cif_t h]
      by_cases g : ¬ cNew BL c ∧ empS SL (c - 1)
      · rw [cif_t g]
        have : c ≠ 0 := fun z => g.1 (Or.inl z)
        have := i2 (by omega)
        exact ⟨by show (cdN TM BL SL c).1 ≤ _; omega, fun _ => this⟩
      · rw [cif_f g]
        have : (apn (mI 1) (cdA BL c (cdN TM BL SL c))).1 = (cdN TM BL SL c).1 + 1 := by show (cdA BL c (cdN TM BL SL c)).1 + 1 = _; rw [cdA_1]
        omega
    · rw [cif_f h]
      have : (wrN (SL c) 3 (apn (hdV (TM c) (SL c) 3) (cdA BL c (cdN TM BL SL c)))).1 = (cdN TM BL SL c).1 + 1 + flN (SL c) 3 := by
        rw [wrN_len]
        show (cdA BL c (cdN TM BL SL c)).1 + 1 + _ = _
        rw [cdA_1]
      omega
theorem flS_le {SL : Nat → Nat → Int32} {c m : Nat} (h : c ≤ m) : flS SL c ≤ flS SL m := by
  induction m with
  | zero => rw [show c = 0 by omega]; exact Nat.le_refl _
  | succ m ih =>
    by_cases e : c = m + 1
    · rw [e]; exact Nat.le_refl _
    · have := ih (by omega)
      show flS SL c ≤ flS SL m + flN (SL m) 3
      omega
/-- bundles as they lie on a side -/
def buI (τ : sg) (c : Nat) (TM BL : Nat → Int32) (SL : Nat → Nat → Int32) : Prop := τ 75 11 = nI c ∧ ∀ i, i < c → τ 137 i = TM i ∧ τ 138 i = BL i ∧ ∀ j, j < 3 → τ (77 + i) j = SL i j
def buM (τ : sg) (c : Nat) (TM BL : Nat → Int32) (SL : Nat → Nat → Int32) : Prop := τ 157 17 = nI c ∧ ∀ i, i < c → τ 727 i = TM i ∧ τ 728 i = BL i ∧ ∀ j, j < 3 → τ (626 + i) j = SL i j
/-- what bundles must be -/
def buV (c : Nat) (BL : Nat → Int32) (SL : Nat → Nat → Int32) : Prop := c ≤ 60 ∧ (∀ i, i < c → (∃ u, u < 40 ∧ BL i = nI u) ∧ slW SL i) ∧ flS SL c ≤ 40
section
variable {σ : sg} {TM BL : Nat → Int32} {SL : Nat → Nat → Int32} {c : Nat}
theorem x5_fs (hb : buI σ c TM BL SL) (hv : buV c BL SL) {i : Nat} (hi : i < c) : f_X5_filledSlots σ (nI i) = some (nI (btN (SL i) 3)) := by
  obtain ⟨v1, v2, v3⟩ := hv
  unfold f_X5_filledSlots L_X5_filledSlots_4
  refine Exists.elim (loop_c2 (F := fun a b => B_X5_filledSlots_4 σ (nI i) a b) 3 (fun j a b => a = nI (btN (SL i) j) ∧ b = nI j) (fun z => z = nI (btN (SL i) 3)) (fun j a b hj hR => ?_) (fu := gN) (gN_gt (by decide)) (a := 0) (b := 0) ⟨rfl, rfl⟩) (fun z hz => by obtain ⟨h1, rfl⟩ := hz; exact h1)
  obtain ⟨rfl, rfl⟩ := hR
  show (∃ a' b', B_X5_filledSlots_4 σ (nI i) (nI (btN (SL i) j)) (nI j) = some (.inl (a', b')) ∧ _) ∨ _
  unfold B_X5_filledSlots_4 J_X5_filledSlots_28
  by_cases j3 : j = 3
  · subst j3
    exact Or.inr ⟨_, if_pos (show 3 ≤ nI 3 by decide), rfl⟩
  have hj3 : j < 3 := by omega
  have e1 : btN (SL i) (j + 1) = if SL i j = mI 4 then btN (SL i) j else btN (SL i) j + 2 ^ j := rfl
  rw [if_neg (show ¬ 3 ≤ nI j by rw [l_3, nI_lei (by decide) (by omega)]; omega), ldr_76 (by omega), Option.bind_some, ldw_77 (by omega) hj3, Option.bind_some, (hb.2 i hi).2.2 j hj3]
  refine Or.inl ?_
  by_cases ce : SL i j = mI 4
  · rw [if_pos (show SL i j = -4 from ce)]
    exact ⟨_, _, rfl, hj3, by rw [e1, if_pos ce], by rw [l_1, nI_add]⟩
  · rw [if_neg (show ¬ SL i j = -4 from ce)]
    exact ⟨_, _, rfl, hj3, by rw [e1, if_neg ce, l_1, btN_or hj3], by rw [l_1, nI_add]⟩
/-- the code so far lies there -/
def cI (τ : sg) (s : CD) : Prop := τ 75 10 = nI s.1 ∧ ∀ k, k < s.1 → τ 144 k = s.2.1 k
theorem x5_wn {τ : sg} {s : CD} {v : Int32} (h : cI τ s) (hl : s.1 < 100) : ∃ τ', f_X5_writeNumber τ v = some τ' ∧ cI τ' (apn v s) ∧ (∀ r, r ≠ 75 → r ≠ 144 → τ' r = τ r) ∧ ∀ k, k ≠ 10 → τ' 75 k = τ 75 k := by
  obtain ⟨h1, h2⟩ := h
  unfold f_X5_writeNumber
  rw [h1, st_144 hl, Option.bind_some, up_r (show 75 ≠ 144 by decide), h1, l_1, nI_add, Option.bind_some]
  refine ⟨_, rfl, ⟨up_same _ _ _ _, fun k hk => ?_⟩, fun r q1 q2 => by rw [up_r q1, up_r q2], fun k hk => by rw [up_k hk, up_r (by decide)]⟩
  have hk' : k < s.1 + 1 := hk
  rw [up_r (by decide)]
  show _ = if k = s.1 then v else s.2.1 k
  by_cases e : k = s.1
  · rw [e, up_same, if_pos rfl]
  · rw [up_k e, if_neg e]; exact h2 k (by omega)
theorem buI_fr {τ τ' : sg} (hc : c ≤ 60) (h : buI τ c TM BL SL) (e1 : ∀ r, r ≠ 75 → r ≠ 144 → r ≠ 143 → τ' r = τ r) (e2 : ∀ k, k ≠ 10 → τ' 75 k = τ 75 k) : buI τ' c TM BL SL := ⟨by rw [e2 11 (by decide)]; exact h.1, fun i hi => by
  rw [e1 137 (by decide) (by decide) (by decide), e1 138 (by decide) (by decide) (by decide), e1 (77 + i) (by omega) (by omega) (by omega)]
  exact h.2 i hi⟩
theorem x5_wb (hb : buI σ c TM BL SL) (hv : buV c BL SL) {i : Nat} (hi : i < c) {s : CD} (hs : cI σ s) (hl : s.1 + 1 + flN (SL i) 3 ≤ 100) : ∃ τ', f_X5_writeBundle σ (nI i) = some τ' ∧ cI τ' (wrN (SL i) 3 (apn (hdV (TM i) (SL i) 3) s)) ∧ (∀ r, r ≠ 75 → r ≠ 144 → τ' r = σ r) ∧ ∀ k, k ≠ 10 → τ' 75 k = σ 75 k := by
  have v1 := hv.1
  unfold f_X5_writeBundle L_X5_writeBundle_25
  have eh : 1000 + 8 * TM i + nI (btN (SL i) 3) = hdV (TM i) (SL i) 3 := by
    unfold hdV
    rw [Int32.add_comm (1000 : Int32)]
    rfl
  rw [ld_137 (by omega), Option.bind_some, (hb.2 i hi).1, x5_fs hb hv hi, Option.bind_some, eh]
  obtain ⟨τ0, t1, t2, t3, t4⟩ := x5_wn (v := hdV (TM i) (SL i) 3) hs (by omega)
  rw [t1, Option.bind_some, l_0]
  refine Exists.elim (loop_k2 (F := B_X5_writeBundle_25 (nI i)) 3 (fun j τ => cI τ (wrN (SL i) j (apn (hdV (TM i) (SL i) 3) s)) ∧ (∀ r, r ≠ 75 → r ≠ 144 → τ r = σ r) ∧ ∀ k, k ≠ 10 → τ 75 k = σ 75 k) (fun z => cI z (wrN (SL i) 3 (apn (hdV (TM i) (SL i) 3) s)) ∧ (∀ r, r ≠ 75 → r ≠ 144 → z r = σ r) ∧ ∀ k, k ≠ 10 → z 75 k = σ 75 k) (fun j τ hj hR => ?_) (fu := gN) (gN_gt (by decide)) (b := τ0) ⟨t2, t3, t4⟩) (fun z hz => ⟨z, hz.1, hz.2⟩)
  unfold B_X5_writeBundle_25 J_X5_writeBundle_55
  by_cases j3 : j = 3
  · subst j3
    exact Or.inr ⟨τ, if_pos (show 3 ≤ nI 3 by decide), hR⟩
  have hj3 : j < 3 := by omega
  obtain ⟨r1, r2, r3⟩ := hR
  have e1 : wrN (SL i) (j + 1) (apn (hdV (TM i) (SL i) 3) s) = if SL i j = mI 4 then wrN (SL i) j (apn (hdV (TM i) (SL i) 3) s) else apn (SL i j) (wrN (SL i) j (apn (hdV (TM i) (SL i) 3) s)) := rfl
  have hb' : τ (77 + i) j = SL i j := by rw [r2 (77 + i) (by omega) (by omega)]; exact (hb.2 i hi).2.2 j hj3
  rw [if_neg (show ¬ 3 ≤ nI j by rw [l_3, nI_lei (by decide) (by omega)]; omega), ldr_76 (by omega), Option.bind_some, ldw_77 (by omega) hj3, Option.bind_some, hb']
  refine Or.inl ?_
  by_cases ce : SL i j = mI 4
  · rw [if_pos (show SL i j = -4 from ce), e1, if_pos ce]
    exact ⟨τ, by rw [l_1, nI_add], hj3, r1, r2, r3⟩
  · rw [if_neg (show ¬ SL i j = -4 from ce), e1, if_neg ce, Option.bind_some, ldw_77 (by omega) hj3, Option.bind_some, hb']
    have hlen : (wrN (SL i) j (apn (hdV (TM i) (SL i) 3) s)).1 < 100 := by
      rw [wrN_len]
      have q1 : flN (SL i) (j + 1) = if SL i j = mI 4 then flN (SL i) j else flN (SL i) j + 1 := rfl
      rw [if_neg ce] at q1
      have q2 : ∀ J, flN (SL i) J ≤ flN (SL i) (J + 1) := fun J => by
        show flN (SL i) J ≤ if SL i J = mI 4 then flN (SL i) J else flN (SL i) J + 1
        by_cases z : SL i J = mI 4
        · rw [if_pos z]; exact Nat.le_refl _
        · rw [if_neg z]; exact Nat.le_succ _
      have q3 : flN (SL i) (j + 1) ≤ flN (SL i) 3 := by
        have a1 : flN (SL i) 1 ≤ flN (SL i) 2 := q2 1
        have a2 : flN (SL i) 2 ≤ flN (SL i) 3 := q2 2
        rcases (show j = 0 ∨ j = 1 ∨ j = 2 by omega) with rfl | rfl | rfl
        · exact Nat.le_trans a1 a2
        · exact a2
        · exact Nat.le_refl _
      show s.1 + 1 + flN (SL i) j < 100
      omega
    obtain ⟨τ2, u1, u2, u3, u4⟩ := x5_wn (v := SL i j) r1 hlen
    rw [u1, Option.bind_some]
    exact ⟨τ2, by rw [l_1, nI_add], hj3, u2, fun r q1 q2 => by rw [u3 r q1 q2, r2 r q1 q2], fun k hk => by rw [u4 k hk, r3 k hk]⟩
theorem emp_nI {sl : Nat → Int32} : (nI (btN sl 3) = 0) = (btN sl 3 = 0) := by
  have := btN_lt sl 3
  rw [l_0, nI_inj (by omega) (by decide)]
/-- the class writes the code -/
theorem x5_code (hb : buI σ c TM BL SL) (hv : buV c BL SL) : ∃ τ', f_X5_writeCode σ = some τ' ∧ cI τ' (cdN TM BL SL c) ∧ (∀ i, i < c → τ' 143 (ixs (BL i)) = nI ((cdN TM BL SL c).2.2 (ixs (BL i)))) ∧ (∀ r, r ≠ 75 → r ≠ 143 → r ≠ 144 → τ' r = σ r) ∧ ∀ k, k ≠ 10 → τ' 75 k = σ 75 k := by
  obtain ⟨v1, v2, v3⟩ := id hv
  unfold f_X5_writeCode L_X5_writeCode_7
  rw [Option.bind_some, l_0]
  refine Exists.elim (loop_k2 (F := B_X5_writeCode_7) c (fun i τ => cI τ (cdN TM BL SL i) ∧ (∀ m, m < i → τ 143 (ixs (BL m)) = nI ((cdN TM BL SL i).2.2 (ixs (BL m)))) ∧ (∀ r, r ≠ 75 → r ≠ 143 → r ≠ 144 → τ r = σ r) ∧ ∀ k, k ≠ 10 → τ 75 k = σ 75 k) (fun z => cI z (cdN TM BL SL c) ∧ (∀ i, i < c → z 143 (ixs (BL i)) = nI ((cdN TM BL SL c).2.2 (ixs (BL i)))) ∧ (∀ r, r ≠ 75 → r ≠ 143 → r ≠ 144 → z r = σ r) ∧ ∀ k, k ≠ 10 → z 75 k = σ 75 k) (fun i τ hi hR => ?_) (fu := gN) (gN_gt (by omega)) ⟨⟨up_same _ _ _ _, fun k hk => absurd hk (Nat.not_lt_zero k)⟩, fun m hm => absurd hm (Nat.not_lt_zero m), fun r q1 q2 q3 => up_r q1, fun k hk => up_k hk⟩) (fun z hz => ⟨z, hz.1, hz.2⟩)
  obtain ⟨r1, r2, r3, r4⟩ := hR
  have r11 : τ 75 11 = nI c := by rw [r4 11 (by decide)]; exact hb.1
  unfold B_X5_writeCode_7
  by_cases ic : i = c
  · subst ic
    exact Or.inr ⟨τ, if_pos (show τ 75 11 ≤ nI i by rw [r11, nI_lei (by omega) (by omega)]; exact Nat.le_refl _), r1, r2, r3, r4⟩
  have hic : i < c := by omega
  have hbτ : buI τ c TM BL SL := buI_fr v1 hb (fun r q1 q2 q3 => r3 r q1 q3 q2) r4
  obtain ⟨S, hS⟩ : ∃ S, S = cdN TM BL SL i := ⟨_, rfl⟩
  have eS : cdN TM BL SL (i + 1) = cd1 TM BL SL i S := by rw [hS]; rfl
  obtain ⟨u, hu, hbu⟩ := (v2 i hic).1
  have hix : ixs (BL i) = u := by rw [hbu]; exact ixs_nI hu
  obtain ⟨n1, n2⟩ := cdN_len (TM := TM) (BL := BL) (SL := SL) i
  rw [← hS] at n1 n2 r1 r2
  have n3 : flS SL (i + 1) = flS SL i + flN (SL i) 3 := rfl
  have n4 := flS_le (SL := SL) (show i + 1 ≤ c by omega)
  rw [if_neg (show ¬ τ 75 11 ≤ nI i by rw [r11, nI_lei (by omega) (by omega)]; omega)]
  -- behind the beginning
  have go61 : ∀ (x2 : Int32) (τ1 : sg), x2 = tf (cNew BL i) → cI τ1 (cdA BL i S) → (∀ m, m < i + 1 → τ1 143 (ixs (BL m)) = nI ((cdA BL i S).2.2 (ixs (BL m)))) → (∀ r, r ≠ 75 → r ≠ 143 → r ≠ 144 → τ1 r = σ r) → (∀ k, k ≠ 10 → τ1 75 k = σ 75 k) → ∃ τ', J_X5_writeCode_61 (nI i) x2 τ1 = some (.inl (nI (i + 1), τ')) ∧ i < c ∧ cI τ' (cdN TM BL SL (i + 1)) ∧ (∀ m, m < i + 1 → τ' 143 (ixs (BL m)) = nI ((cdN TM BL SL (i + 1)).2.2 (ixs (BL m)))) ∧ (∀ r, r ≠ 75 → r ≠ 143 → r ≠ 144 → τ' r = σ r) ∧ ∀ k, k ≠ 10 → τ' 75 k = σ 75 k := by
    intro x2 τ1 hx2 c1 c2 c3 c4
    have hb1 : buI τ1 c TM BL SL := buI_fr v1 hb (fun r q1 q2 q3 => c3 r q1 q3 q2) c4
    unfold J_X5_writeCode_61 J_X5_writeCode_109 J_X5_writeCode_114
    rw [eS, x5_fs hb1 hv hic, Option.bind_some, hx2]
    have neu : ∃ τ', (f_X5_writeNumber τ1 (-1)).bind (fun s111 => some (Sum.inl (β := sg) (nI i + 1, s111))) = some (.inl (nI (i + 1), τ')) ∧ i < c ∧ cI τ' (apn (mI 1) (cdA BL i S)) ∧ (∀ m, m < i + 1 → τ' 143 (ixs (BL m)) = nI ((apn (mI 1) (cdA BL i S)).2.2 (ixs (BL m)))) ∧ (∀ r, r ≠ 75 → r ≠ 143 → r ≠ 144 → τ' r = σ r) ∧ ∀ k, k ≠ 10 → τ' 75 k = σ 75 k := by
      obtain ⟨τ2, w1, w2, w3, w4⟩ := x5_wn (v := mI 1) c1 (by rw [cdA_1]; omega)
      rw [show (-1 : Int32) = mI 1 from rfl, w1, Option.bind_some]
      exact ⟨τ2, by rw [l_1, nI_add], hic, w2, fun m hm => by rw [w3 143 (by decide) (by decide)]; exact c2 m hm, fun r q1 q2 q3 => by rw [w3 r q1 q3, c3 r q1 q2 q3], fun k hk => by rw [w4 k hk, c4 k hk]⟩
    by_cases he : empS SL i
    · rw [if_pos (show nI (btN (SL i) 3) = 0 by rw [emp_nI]; exact he)]
      unfold cd1
      rw [cif_t he]
      by_cases hn : cNew BL i
      · rw [tf_t hn, if_neg (show ¬ nI 1 = 0 by decide), cif_f (fun q => q.1 hn)]
        exact neu
      · have i0 : i ≠ 0 := fun z => hn (Or.inl z)
        rw [tf_f hn, if_pos (show nI 0 = 0 from rfl), l_1, nI_sub (by omega), x5_fs hb1 hv (i := i - 1) (by omega), Option.bind_some]
        by_cases he2 : empS SL (i - 1)
        · rw [if_pos (show nI (btN (SL (i - 1)) 3) = 0 by rw [emp_nI]; exact he2), cif_t ⟨hn, he2⟩]
          have eA : cdA BL i S = S := cif_f hn
          rw [eA] at c1 c2
          have nz := n2 (by omega)
          rw [c1.1, nI_sub (by omega), ld_144 (by omega), Option.bind_some, c1.2 _ (by omega), st_144 (by omega), Option.bind_some]
          refine ⟨_, by rw [nI_add], hic, ⟨by rw [up_r (by decide)]; exact c1.1, fun k hk => ?_⟩, fun m hm => by rw [up_r (by decide)]; exact c2 m hm, fun r q1 q2 q3 => by rw [up_r q3, c3 r q1 q2 q3], fun k hk => by rw [up_r (by decide), c4 k hk]⟩
          show _ = if k = S.1 - 1 then S.2.1 k - nI 1 else S.2.1 k
          by_cases ek : k = S.1 - 1
          · rw [ek, up_same, if_pos rfl]
          · rw [up_k ek, if_neg ek]; exact c1.2 k hk
        · rw [if_neg (show ¬ nI (btN (SL (i - 1)) 3) = 0 by rw [emp_nI]; exact he2), cif_f (fun q => he2 q.2)]
          rw [l_1] at neu
          exact neu
    · rw [if_neg (show ¬ nI (btN (SL i) 3) = 0 by rw [emp_nI]; exact he)]
      unfold cd1
      rw [cif_f he]
      obtain ⟨τ2, w1, w2, w3, w4⟩ := x5_wb hb1 hv hic c1 (by rw [cdA_1]; omega)
      rw [w1, Option.bind_some]
      exact ⟨τ2, by rw [l_1, nI_add], hic, w2, fun m hm => by rw [w3 143 (by decide) (by decide), wrN_b]; exact c2 m hm, fun r q1 q2 q3 => by rw [w3 r q1 q3, c3 r q1 q2 q3], fun k hk => by rw [w4 k hk, c4 k hk]⟩
  have goN : cNew BL i → ∃ τ', J_X5_writeCode_36 (nI i) τ = some (.inl (nI (i + 1), τ')) ∧ i < c ∧ cI τ' (cdN TM BL SL (i + 1)) ∧ (∀ m, m < i + 1 → τ' 143 (ixs (BL m)) = nI ((cdN TM BL SL (i + 1)).2.2 (ixs (BL m)))) ∧ (∀ r, r ≠ 75 → r ≠ 143 → r ≠ 144 → τ' r = σ r) ∧ ∀ k, k ≠ 10 → τ' 75 k = σ 75 k := by
    intro hn
    unfold J_X5_writeCode_36 J_X5_writeCode_41
    rw [if_neg (show ¬ (1 : Int32) = 0 by decide), ld_138 (by omega), Option.bind_some, (hbτ.2 i hic).2.1, hbu, r1.1, st_143 hu, Option.bind_some]
    have eA : cdA BL i S = (S.1, S.2.1, fun w => if w = ixs (BL i) then S.1 else S.2.2 w) := cif_t hn
    refine go61 _ _ (by rw [tf_t hn]; rfl) (by rw [eA]; exact ⟨by rw [up_r (by decide)]; exact r1.1, fun k hk => by rw [up_r (by decide)]; exact r1.2 k hk⟩) (fun m hm => ?_) (fun r q1 q2 q3 => by rw [up_r q2, r3 r q1 q2 q3]) (fun k hk => by rw [up_r (by decide), r4 k hk])
    rw [eA]
    show _ = nI (if ixs (BL m) = ixs (BL i) then S.1 else S.2.2 (ixs (BL m)))
    by_cases e : ixs (BL m) = ixs (BL i)
    · rw [if_pos e, e, hix, up_same]
    · rw [if_neg e, up_k (by rw [← hix]; exact e)]
      exact r2 m (by
        by_cases em : m = i
        · exact absurd (by rw [em]) e
        · omega)
  refine Or.inl ?_
  by_cases i0 : i = 0
  · rw [if_pos (show nI i = 0 by rw [i0]; rfl)]
    exact goN (Or.inl i0)
  · rw [if_neg (show ¬ nI i = 0 by rw [l_0, nI_inj (by omega) (by decide)]; exact i0), ld_138 (by omega), Option.bind_some, l_1, nI_sub (by omega), ld_138 (by omega), Option.bind_some, (hbτ.2 i hic).2.1, (hbτ.2 (i - 1) (by omega)).2.1]
    by_cases e : BL i = BL (i - 1)
    · rw [if_pos e]
      have hn : ¬ cNew BL i := fun q => q.elim i0 (fun w => w e)
      have eA : cdA BL i S = S := cif_f hn
      unfold J_X5_writeCode_41
      rw [if_pos (show (0 : Int32) = 0 from rfl)]
      refine go61 _ τ (by rw [tf_f hn]; rfl) (by rw [eA]; exact r1) (fun m hm => ?_) r3 r4
      rw [eA]
      by_cases em : m = i
      · rw [em, e]; exact r2 (i - 1) (by omega)
      · exact r2 m (by omega)
    · rw [if_neg e]
      exact goN (Or.inr e)
end
