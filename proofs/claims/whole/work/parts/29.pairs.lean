/-! ADD, SET, REMOVELAST, UNDO: the class first, then the reference -/
/-- where a change leaves both -/
def aft (σ τ : sg) : Prop := ∃ (P' : gP) (n' : Nat), iProg τ P' n' ∧ iBlk τ P' n' ∧ iHist τ P' n' ∧ ∀ r k, ¬ chD r k → τ r k = σ r k
def prOK (f1 f2 : sg → Option (Int32 × sg)) (σ : sg) : Prop := ∃ (v : Int32) (σ1 σ2 : sg), f1 σ = some (v, σ1) ∧ f2 σ1 = some (v, σ2) ∧ aft σ σ2
section
variable {σ : sg} {P : gP} {n : Nat}
theorem aft_0 (hp : iProg σ P n) (hb : iBlk σ P n) (hh : iHist σ P n) : aft σ σ := ⟨P, n, hp, hb, hh, fun _ _ _ => rfl⟩
theorem pr_same {f1 f2 : sg → Option (Int32 × sg)} (hp : iProg σ P n) (hb : iBlk σ P n) (hh : iHist σ P n) {v : Int32} (h1 : f1 σ = some (v, σ)) (h2 : f2 σ = some (v, σ)) : prOK f1 f2 σ := ⟨v, σ, σ, h1, h2, aft_0 hp hb hh⟩
theorem hist_cd (hh : iHist σ P n) : ∃ c d q : Nat, c < 10 ∧ q < 10 ∧ (d = 0 ∨ (d = 1 ∧ c = 9)) ∧ σ 43 3 = nI q ∧ σ 43 4 = nI (c + d) ∧ σ 157 4 = nI (c + d) ∧ Hc σ (c + d) q P n := by
  obtain ⟨c, q, h1, h2, h3, h4, h5, h6⟩ := hh
  by_cases e : c = 10
  · subst e
    exact ⟨9, 1, q, by decide, h2, Or.inr ⟨rfl, rfl⟩, h3, h4, h5, h6⟩
  · exact ⟨c, 0, q, by omega, h2, Or.inl rfl, h3, h4, h5, h6⟩
theorem mut_ok {P' : gP} {n' i : Nat} {W V : sg → sg} (hp : iProg σ P n) (hh : iHist σ P n) (hi : i < 40) (hn' : n' ≤ 40) (hV' : pVs P') (hP' : ∀ x j, x < 40 → j < 4 → x ≠ i → P' x j = P x j)
    (w1 : ∀ s r, r ≠ 1 → r ≠ 3 + i → W s r = s r) (w2 : ∀ s, rI s P → rI (W s) P') (w3 : ∀ s, s 1 1 = nI n → W s 1 1 = nI n')
    (v1 : ∀ s r, r ≠ 157 → r ≠ 159 + i → V s r = s r) (v2 : ∀ s, rM s P → rM (V s) P') (v3 : ∀ s, s 157 0 = nI n → V s 157 0 = nI n') (v4 : ∀ s k, k ≠ 0 → V s 157 k = s 157 k) :
    ∃ s σ1 t : sg, f_X3_remember σ (nI i) = some s ∧ rI s P ∧ s 1 1 = nI n ∧ f_X1_cut (W s) = some σ1 ∧ σ1 157 = σ 157 ∧ rM σ1 P ∧ f_X9_remember σ1 = some t ∧ t 157 0 = nI n ∧ rM t P ∧ aft σ (V t) := by
  obtain ⟨hI, hM, hV, hn1, hn9, hn40⟩ := hp
  obtain ⟨c, d, q, hc10, hq10, hd, hq, hc1, hc9, hH⟩ := hist_cd hh
  obtain ⟨s, r1, r2⟩ := x3_rem (i := i) hq hq10 hc1 (by omega) hi
  have hs1 : s 1 = σ 1 := r2.1 1 (by decide) (by decide) (by decide) (by omega)
  have hsI : rI s P := rI_fr hI (fun r q1 q2 => r2.1 r (by omega) (by omega) (by omega) (by omega))
  have hsn : s 1 1 = nI n := by rw [hs1]; exact hn1
  obtain ⟨σ1, b1, b2⟩ := chI_of (P' := P') (n' := n') hI hn1 hq10 hi r2 (w1 s) (w2 s hsI) (w3 s hsn) hV' hn'
  have h61 : ∀ r, 61 ≤ r → σ1 r = σ r := fun r hr => b2.2.2.2.2.2.2.2.2.2 r (Or.inr hr)
  have hM1 : rM σ1 P := rM_fr hM (fun r q1 q2 => h61 r (by omega))
  have e157 : σ1 157 = σ 157 := h61 157 (by decide)
  obtain ⟨t, c1, c2⟩ := x9_rem (d := d) hM1 (by rw [e157]; exact hn9) (c := c) (by rw [e157]; exact hc9) hc10 hd
  have htn : t 157 0 = nI n := by rw [c2.2.1 0 (by decide), e157]; exact hn9
  have htM : rM t P := rM_fr hM1 (fun r q1 q2 => c2.1 r (by omega) (by omega) (by omega))
  have b3 : chM σ1 (V t) P P' n n' c d := chM_of hi hc10 c2 (v1 t) (v4 t) (v2 t htM) (v3 t htn)
  obtain ⟨z1, z2, z3, z4⟩ := chg_ok ⟨hI, hM, hV, hn1, hn9, hn40⟩ hq hq10 hc10 hd hH hi b2 b3 hV' hn' hP'
  exact ⟨s, σ1, t, r1, hsI, hsn, b1, e157, hM1, c1, htn, htM, P', n', z1, z2, z3, z4⟩
theorem gset_i {i : Nat} {R : Nat → Int32} {j : Nat} : gset P i R i j = R j := if_pos rfl
theorem gset_o {i x : Nat} {R : Nat → Int32} {j : Nat} (h : x ≠ i) : gset P i R x j = P x j := if_neg h
theorem rI_w {s s' : sg} {i : Nat} {o d a b : Int32} (h : rI s P) (e : ∀ r, 3 ≤ r → r < 43 → s' r = w4 s (3 + i) o d a b r) : rI s' (gset P i (rowv o d a b)) := fun x j hx hj => by
  rw [e (3 + x) (by omega) (by omega)]
  by_cases c : x = i
  · subst c; rw [w4_s hj, gset_i]
  · rw [w4_o (by omega), gset_o c]; exact h x j hx hj
theorem rM_w {s s' : sg} {i : Nat} {o d a b : Int32} (h : rM s P) (e : ∀ r, 159 ≤ r → r < 199 → s' r = w4 s (159 + i) o d a b r) : rM s' (gset P i (rowv o d a b)) := fun x j hx hj => by
  rw [e (159 + x) (by omega) (by omega)]
  by_cases c : x = i
  · subst c; rw [w4_s hj, gset_i]
  · rw [w4_o (by omega), gset_o c]; exact h x j hx hj
theorem add_ok (hp : iProg σ P n) (hb : iBlk σ P n) (hh : iHist σ P n) {z : Prop} (hz1 : σ 75 12 = tf z) (hz9 : σ 157 16 = tf z) (o d a b : Int32) : prOK (fun s => f_X8_add s o d a b) (fun s => f_X9_add s o d a b) σ := by
  obtain ⟨hI, hM, hV, hn1, hn9, hn40⟩ := id hp
  refine Or.elim (Classical.em (vIns o.toInt d.toInt a.toInt b.toInt)).symm (fun hv => ?_) (fun hv => ?_)
  · refine pr_same (v := -2) hp hb hh ?_ ?_
    · show f_X8_add σ o d a b = _
      unfold f_X8_add
      rw [x6_ins, Option.bind_some, if_tf, cif_f hv]
    · show f_X9_add σ o d a b = _
      unfold f_X9_add
      rw [x9_ins, Option.bind_some, if_tf, cif_f hv]
  by_cases hz : z
  · refine pr_same (v := -5) hp hb hh ?_ ?_
    · show f_X8_add σ o d a b = _
      unfold f_X8_add
      rw [x6_ins, Option.bind_some, if_tf, cif_t hv, if_neg (show ¬ σ 75 12 = 0 by rw [hz1, tf_0]; exact fun g => g hz)]
    · show f_X9_add σ o d a b = _
      unfold f_X9_add
      rw [x9_ins, Option.bind_some, if_tf, cif_t hv, if_neg (show ¬ σ 157 16 = 0 by rw [hz9, tf_0]; exact fun g => g hz)]
  have k1 : σ 75 12 = 0 := by rw [hz1, tf_0]; exact hz
  have k9 : σ 157 16 = 0 := by rw [hz9, tf_0]; exact hz
  by_cases hn : n = 40
  · subst hn
    refine pr_same (v := -3) hp hb hh ?_ ?_
    · show f_X8_add σ o d a b = _
      unfold f_X8_add
      rw [x6_ins, Option.bind_some, if_tf, cif_t hv, if_pos k1, if_neg (show ¬ σ 1 1 < 40 by rw [hn1, l_40, nI_lti (by decide) (by decide)]; decide)]
    · show f_X9_add σ o d a b = _
      unfold f_X9_add
      rw [x9_ins, Option.bind_some, if_tf, cif_t hv, if_pos k9, if_pos (show σ 157 0 = 40 by rw [hn9]; rfl)]
  have hi : n < 40 := by omega
  obtain ⟨s, σ1, t, r1, hsI, hsn, b1, e157, hM1, c1, htn, htM, hA⟩ := mut_ok (P' := gset P n (rowv o d a b)) (n' := n + 1) (i := n) (W := fun s => up (w4 s (3 + n) o d a b) 1 1 (nI (n + 1))) (V := fun s => up (w4 s (159 + n) o d a b) 157 0 (nI (n + 1))) hp hh hi (by omega) (pV_row hv hV) (fun x j _ _ e => gset_o e)
    (fun s r q1 q2 => by rw [up_r q1, w4_o q2]) (fun s h => rI_w h (fun r q1 q2 => up_r (by omega))) (fun s h => up_same _ _ _ _)
    (fun s r q1 q2 => by rw [up_r q1, w4_o q2]) (fun s h => rM_w h (fun r q1 q2 => up_r (by omega))) (fun s h => up_same _ _ _ _) (fun s k hk => by rw [up_k hk, w4_o (by omega)])
  refine ⟨nI n, σ1, _, ?_, ?_, hA⟩
  · show f_X8_add σ o d a b = _
    unfold f_X8_add
    rw [x6_ins, Option.bind_some, if_tf, cif_t hv, if_pos k1, if_pos (show σ 1 1 < 40 by rw [hn1, l_40, nI_lti (by omega) (by decide)]; exact hi), hn1, r1, Option.bind_some, x6_write hi, Option.bind_some, Option.bind_some, l_1, nI_add, b1, Option.bind_some]
  · show f_X9_add σ1 o d a b = _
    unfold f_X9_add
    rw [x9_ins, Option.bind_some, if_tf, cif_t hv, if_pos (show σ1 157 16 = 0 by rw [e157]; exact k9), if_neg (show ¬ σ1 157 0 = 40 by rw [e157, hn9, l_40, nI_inj (by omega) (by decide)]; exact hn), c1, Option.bind_some, htn, x9_put hi, Option.bind_some, Option.bind_some, w4_o (show 157 ≠ 159 + n by omega), htn, l_1, nI_add, up_same, nI_sub (by omega)]
    rfl
theorem set_ok (hp : iProg σ P n) (hb : iBlk σ P n) (hh : iHist σ P n) {z : Prop} (hz1 : σ 75 12 = tf z) (hz9 : σ 157 16 = tf z) (x o d a b : Int32) : prOK (fun s => f_X8_set s x o d a b) (fun s => f_X9_set s x o d a b) σ := by
  obtain ⟨hI, hM, hV, hn1, hn9, hn40⟩ := id hp
  have hx6 : f_X6_has σ x = some (tf (0 ≤ x.toInt ∧ x.toInt < (n : Int))) := by rw [x6_has hn1 hn40, tf_if]
  have hx9 : ∀ τ : sg, τ 157 0 = nI n → f_X9_isThere τ x = some (tf (0 ≤ x.toInt ∧ x.toInt < (n : Int))) := fun τ h => by rw [x9_there h hn40, tf_if]
  refine Or.elim (Classical.em (0 ≤ x.toInt ∧ x.toInt < (n : Int))).symm (fun hx => ?_) (fun hx => ?_)
  · refine pr_same (v := -1) hp hb hh ?_ ?_
    · show f_X8_set σ x o d a b = _
      unfold f_X8_set
      rw [hx6, Option.bind_some, if_tf, cif_f hx]
    · show f_X9_set σ x o d a b = _
      unfold f_X9_set
      rw [hx9 σ hn9, Option.bind_some, if_tf, cif_f hx]
  refine Or.elim (Classical.em (vIns o.toInt d.toInt a.toInt b.toInt)).symm (fun hv => ?_) (fun hv => ?_)
  · refine pr_same (v := -2) hp hb hh ?_ ?_
    · show f_X8_set σ x o d a b = _
      unfold f_X8_set
      rw [hx6, Option.bind_some, if_tf, cif_t hx, x6_ins, Option.bind_some, if_tf, cif_f hv]
    · show f_X9_set σ x o d a b = _
      unfold f_X9_set
      rw [hx9 σ hn9, Option.bind_some, if_tf, cif_t hx, x9_ins, Option.bind_some, if_tf, cif_f hv]
  by_cases hz : z
  · refine pr_same (v := -5) hp hb hh ?_ ?_
    · show f_X8_set σ x o d a b = _
      unfold f_X8_set
      rw [hx6, Option.bind_some, if_tf, cif_t hx, x6_ins, Option.bind_some, if_tf, cif_t hv, if_neg (show ¬ σ 75 12 = 0 by rw [hz1, tf_0]; exact fun g => g hz)]
    · show f_X9_set σ x o d a b = _
      unfold f_X9_set
      rw [hx9 σ hn9, Option.bind_some, if_tf, cif_t hx, x9_ins, Option.bind_some, if_tf, cif_t hv, if_neg (show ¬ σ 157 16 = 0 by rw [hz9, tf_0]; exact fun g => g hz)]
  have k1 : σ 75 12 = 0 := by rw [hz1, tf_0]; exact hz
  have k9 : σ 157 16 = 0 := by rw [hz9, tf_0]; exact hz
  obtain ⟨i, hin, rfl⟩ : ∃ i : Nat, i < n ∧ x = nI i := ⟨x.toInt.toNat, by omega, nI_ofi hx.1⟩
  have hi : i < 40 := by omega
  obtain ⟨s, σ1, t, r1, hsI, hsn, b1, e157, hM1, c1, htn, htM, hA⟩ := mut_ok (P' := gset P i (rowv o d a b)) (n' := n) (i := i) (W := fun s => w4 s (3 + i) o d a b) (V := fun s => w4 s (159 + i) o d a b) hp hh hi hn40 (pV_row hv hV) (fun x j _ _ e => gset_o e)
    (fun s r q1 q2 => w4_o q2) (fun s h => rI_w h (fun r q1 q2 => rfl)) (fun s h => by rw [w4_o (by omega)]; exact h)
    (fun s r q1 q2 => w4_o q2) (fun s h => rM_w h (fun r q1 q2 => rfl)) (fun s h => by rw [w4_o (by omega)]; exact h) (fun s k hk => by rw [w4_o (by omega)])
  refine ⟨P i 0, σ1, _, ?_, ?_, hA⟩
  · show f_X8_set σ (nI i) o d a b = _
    unfold f_X8_set
    rw [hx6, Option.bind_some, if_tf, cif_t hx, x6_ins, Option.bind_some, if_tf, cif_t hv, if_pos k1, x6_op hI hi, Option.bind_some, r1, Option.bind_some, x6_write hi, Option.bind_some, b1, Option.bind_some]
  · show f_X9_set σ1 (nI i) o d a b = _
    unfold f_X9_set
    rw [hx9 σ1 (by rw [e157]; exact hn9), Option.bind_some, if_tf, cif_t hx, x9_ins, Option.bind_some, if_tf, cif_t hv, if_pos (show σ1 157 16 = 0 by rw [e157]; exact k9), c1, Option.bind_some, ldr_158 hi, Option.bind_some, l_0, ldM htM hi (by decide), Option.bind_some, x9_put hi, Option.bind_some]
theorem rml_ok (hp : iProg σ P n) (hb : iBlk σ P n) (hh : iHist σ P n) {z : Prop} (hz1 : σ 75 12 = tf z) (hz9 : σ 157 16 = tf z) : prOK f_X8_removeLast f_X9_removeLast σ := by
  obtain ⟨hI, hM, hV, hn1, hn9, hn40⟩ := id hp
  by_cases hz : z
  · refine pr_same (v := -5) hp hb hh ?_ ?_
    · unfold f_X8_removeLast
      rw [if_neg (show ¬ σ 75 12 = 0 by rw [hz1, tf_0]; exact fun g => g hz)]
    · unfold f_X9_removeLast
      rw [if_neg (show ¬ σ 157 16 = 0 by rw [hz9, tf_0]; exact fun g => g hz)]
  have k1 : σ 75 12 = 0 := by rw [hz1, tf_0]; exact hz
  have k9 : σ 157 16 = 0 := by rw [hz9, tf_0]; exact hz
  by_cases hn : n = 0
  · subst hn
    refine pr_same (v := -4) hp hb hh ?_ ?_
    · unfold f_X8_removeLast
      rw [if_pos k1, if_pos (show σ 1 1 = 0 by rw [hn1]; rfl)]
    · unfold f_X9_removeLast
      rw [if_pos k9, if_pos (show σ 157 0 = 0 by rw [hn9]; rfl)]
  obtain ⟨m, rfl⟩ : ∃ m, n = m + 1 := ⟨n - 1, by omega⟩
  have hi : m < 40 := by omega
  obtain ⟨s, σ1, t, r1, hsI, hsn, b1, e157, hM1, c1, htn, htM, hA⟩ := mut_ok (P' := P) (n' := m) (i := m) (W := fun s => up s 1 1 (nI m)) (V := fun s => up s 157 0 (nI m)) hp hh hi (by omega) hV (fun x j _ _ e => rfl)
    (fun s r q1 q2 => up_r q1) (fun s h => rI_fr h (fun r q1 q2 => up_r (by omega))) (fun s h => up_same _ _ _ _)
    (fun s r q1 q2 => up_r q1) (fun s h => rM_fr h (fun r q1 q2 => up_r (by omega))) (fun s h => up_same _ _ _ _) (fun s k hk => up_k hk)
  have hm1 : nI (m + 1) - nI 1 = nI m := by rw [nI_sub (by omega)]; rfl
  refine ⟨nI m, σ1, _, ?_, ?_, hA⟩
  · unfold f_X8_removeLast
    rw [if_pos k1, if_neg (show ¬ σ 1 1 = 0 by rw [hn1, l_0, nI_inj (by omega) (by decide)]; omega), hn1, l_1, hm1, r1, Option.bind_some, Option.bind_some, b1, Option.bind_some]
  · unfold f_X9_removeLast
    rw [if_pos (show σ1 157 16 = 0 by rw [e157]; exact k9), if_neg (show ¬ σ1 157 0 = 0 by rw [e157, hn9, l_0, nI_inj (by omega) (by decide)]; omega), c1, Option.bind_some, htn, l_1, hm1, Option.bind_some, up_same]
theorem undo_ok (hp : iProg σ P n) (hb : iBlk σ P n) (hh : iHist σ P n) {z : Prop} (hz1 : σ 75 12 = tf z) (hz9 : σ 157 16 = tf z) : prOK f_X8_undo f_X9_undo σ := by
  obtain ⟨hI, hM, hV, hn1, hn9, hn40⟩ := id hp
  by_cases hz : z
  · refine pr_same (v := -5) hp hb hh ?_ ?_
    · unfold f_X8_undo
      rw [if_neg (show ¬ σ 75 12 = 0 by rw [hz1, tf_0]; exact fun g => g hz)]
    · unfold f_X9_undo
      rw [if_neg (show ¬ σ 157 16 = 0 by rw [hz9, tf_0]; exact fun g => g hz)]
  have k1 : σ 75 12 = 0 := by rw [hz1, tf_0]; exact hz
  have k9 : σ 157 16 = 0 := by rw [hz9, tf_0]; exact hz
  obtain ⟨c, q, hc10, hq10, hq, hc1, hc9, hH⟩ := id hh
  cases c with
  | zero =>
    refine pr_same (v := -4) hp hb hh ?_ ?_
    · unfold f_X8_undo
      rw [if_pos k1, if_pos (show σ 43 4 = 0 by rw [hc1]; rfl)]
    · unfold f_X9_undo
      rw [if_pos k9, if_pos (show σ 157 4 = 0 by rw [hc9]; rfl)]
  | succ c =>
    obtain ⟨m, i, h1, hm40, h2, hi, hV', h3, h4, hH'⟩ := hH
    obtain ⟨s, r1, r2, r3, r4, r5, r6⟩ := x3_back hq hq10 hc1 (by omega) h2 hi h1
    have hsI : rI s (hRow σ ((q + 9) % 10) i P) := fun x j hx hj => by
      unfold hRow
      by_cases e : x = i
      · subst e
        rw [if_pos ⟨rfl, hj⟩, r3 j hj]
      · rw [if_neg (fun g => e g.1), r2 (3 + x) (by omega) (by omega) (by omega)]
        exact hI x j hx hj
    obtain ⟨σ1, b1, b2, b3, b4, b5⟩ := x1_cut hsI r4 hm40 hV'
    have e1 : ∀ r, r ≠ 1 → r ≠ 43 → r ≠ 3 + i → r ≠ 57 → r ≠ 58 → r ≠ 59 → r ≠ 60 → σ1 r = σ r := fun r q1 q2 q3 q4 q5 q6 q7 => by rw [b2 r q4 q5 q6 q7, r2 r q2 q1 q3]
    have e157 : σ1 157 = σ 157 := e1 157 (by decide) (by decide) (by omega) (by decide) (by decide) (by decide) (by decide)
    obtain ⟨s9, σ2, t0, t1, t2, t3, t4, t5, t6⟩ := x9_back (σ := σ1) (c := c) (m := m) (P' := hRow σ ((q + 9) % 10) i P) (by rw [e157]; exact hc9) (by omega) (by rw [e1 610 (by decide) (by decide) (by omega) (by decide) (by decide) (by decide) (by decide)]; exact h3) (fun x j hx hj => by rw [e1 (201 + 41 * c + x) (by omega) (by omega) (by omega) (by omega) (by omega) (by omega) (by omega)]; exact h4 x j hx hj)
    have f1 : ∀ r, r < 157 → σ2 r = σ1 r := fun r hr => t3 r (by omega) (by omega)
    refine ⟨nI c, σ1, σ2, ?_, ?_, hRow σ ((q + 9) % 10) i P, m, ⟨rI_fr hsI (fun r q1 q2 => by rw [f1 r (by omega), b2 r (by omega) (by omega) (by omega) (by omega)]), t2, hV', ?_, t6, hm40⟩, ?_, ⟨c, (q + 9) % 10, by omega, by omega, ?_, ?_, t5, ?_⟩, fun r k hr => ?_⟩
    · unfold f_X8_undo
      rw [if_pos k1, if_neg (show ¬ σ 43 4 = 0 by rw [hc1, l_0, nI_inj (by omega) (by decide)]; omega), r1, Option.bind_some, b1, Option.bind_some, b2 43 (by decide) (by decide) (by decide) (by decide), r6]
    · unfold f_X9_undo
      rw [if_pos (show σ1 157 16 = 0 by rw [e157]; exact k9), if_neg (show ¬ σ1 157 4 = 0 by rw [e157, hc9, l_0, nI_inj (by omega) (by decide)]; omega), show σ1 157 4 - 1 = nI c by rw [e157, hc9, l_1, nI_sub (by omega)]; rfl, Option.bind_some, up_same, ld_610 (by omega), Option.bind_some, up_r (show 610 ≠ 157 by decide), show σ1 610 c = nI m by rw [e1 610 (by decide) (by decide) (by omega) (by decide) (by decide) (by decide) (by decide)]; exact h3, Option.bind_some, t0, show s9 157 4 = nI c by rw [← t0, up_k (by decide), up_same], ldr_199 (by omega), Option.bind_some, t1, Option.bind_some, t5]
    · rw [f1 1 (by decide), b2 1 (by decide) (by decide) (by decide) (by decide)]; exact r4
    · unfold iBlk BKI at *
      rw [f1 57 (by decide), f1 58 (by decide), f1 59 (by decide)]
      exact ⟨b3, b4, b5⟩
    · rw [f1 43 (by decide), b2 43 (by decide) (by decide) (by decide) (by decide)]; exact r5
    · rw [f1 43 (by decide), b2 43 (by decide) (by decide) (by decide) (by decide)]; exact r6
    · have g : ∀ r, 44 ≤ r → r < 57 → σ2 r = σ r := fun r q1 q2 => by rw [f1 r (by omega), e1 r (by omega) (by omega) (by omega) (by omega) (by omega) (by omega) (by omega)]
      have g2 : ∀ r, 200 ≤ r → σ2 r = σ r := fun r q1 => by rw [t3 r (by omega) (by omega), e1 r (by omega) (by omega) (by omega) (by omega) (by omega) (by omega) (by omega)]
      refine Hc_mv (σ := σ) 10 0 (fun p hp1 hp2 => ?_) c _ _ _ m (fun x j hx hj => rfl) (fun e e1 e2 => ⟨by omega, by omega⟩) (fun k hk => by rw [g2 610 (by decide)]; rfl) (fun k x j hk hx hj => by rw [g2 _ (by omega)]; rfl) hH'
      rw [g 44 (by decide) (by decide), g 45 (by decide) (by decide), g (47 + p) (by omega) (by omega)]
      exact ⟨rfl, rfl, fun _ _ => rfl⟩
    · unfold chD at hr
      by_cases c157 : r = 157
      · subst c157
        rw [t4 k (by omega) (by omega), e157]
      · rw [t3 r c157 (by omega), e1 r (by omega) (by omega) (by omega) (by omega) (by omega) (by omega) (by omega)]
end
