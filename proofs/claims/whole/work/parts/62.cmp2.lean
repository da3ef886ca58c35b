/-! COMPARE, both sides -/
section
variable {σ : sg} {P : gP} {s : MS} {n : Nat} {G : Nat → Nat} {z : Prop}
theorem x4_copy {o q : Nat} (ho : oMa o) (hq : oMa q) (hne : o ≠ q) (hm : mS σ q s) : ∃ σ', f_X4_copyFrom σ o q = some σ' ∧ mS σ' o s ∧ ∀ r, r ≠ o + 1 → r ≠ o + 2 → σ' r = σ r := by
  have hor : ∀ o, oMa o → o = 145 ∨ o = 148 ∨ o = 151 := fun _ => id
  have ho3 := hor o ho
  have hq3 := hor q hq
  have s1 : ∀ o, oMa o → g_sh (o + 1) = .inr (0, 8, none) := fun o h => by rcases h with rfl | rfl | rfl <;> rfl
  have s2 : ∀ o, oMa o → g_sh (o + 2) = .inr (0, 16, none) := fun o h => by rcases h with rfl | rfl | rfl <;> rfl
  unfold f_X4_copyFrom
  rw [l_0, l_8, cp_of (s1 q hq) (s1 o ho) (by omega) (Nat.le_refl 8) (Nat.le_refl 8) (by decide), Option.bind_some, show (16 : Int32) = nI 16 from rfl, cp_of (s2 q hq) (s2 o ho) (by omega) (Nat.le_refl 16) (Nat.le_refl 16) (by decide), Option.bind_some]
  refine ⟨_, rfl, ⟨fun k hk => ?_, fun k hk => ?_⟩, fun r q1 q2 => ?_⟩
  · show (if o + 1 = o + 2 then _ else if o + 1 = o + 1 then (fun k => if k < 8 then σ (q + 1) k else σ (o + 1) k) else σ (o + 1)) k = s k
    rw [if_neg (by omega), if_pos rfl]
    show (if k < 8 then σ (q + 1) k else σ (o + 1) k) = s k
    rw [if_pos hk]; exact hm.1 k hk
  · show (if o + 2 = o + 2 then (fun k => if k < 16 then (if q + 2 = o + 1 then (fun k => if k < 8 then σ (q + 1) k else σ (o + 1) k) else σ (q + 2)) k else (if o + 2 = o + 1 then (fun k => if k < 8 then σ (q + 1) k else σ (o + 1) k) else σ (o + 2)) k) else _) k = s (8 + k)
    rw [if_pos rfl]
    show (if k < 16 then (if q + 2 = o + 1 then (fun k => if k < 8 then σ (q + 1) k else σ (o + 1) k) else σ (q + 2)) k else (if o + 2 = o + 1 then (fun k => if k < 8 then σ (q + 1) k else σ (o + 1) k) else σ (o + 2)) k) = s (8 + k)
    rw [if_pos hk, if_neg (by omega)]; exact hm.2 k hk
  · show (if r = o + 2 then _ else if r = o + 1 then _ else σ r) = σ r
    rw [if_neg q2, if_neg q1]
theorem x4_same {o q : Nat} (ho : oMa o) (hq : oMa q) (h1 : mS σ o s) (h2 : mS σ q s) : f_X4_holdsTheSameAs σ o q = some 1 := by
  unfold f_X4_holdsTheSameAs L_X4_holdsTheSameAs_2
  have e2 : L_X4_holdsTheSameAs_33 σ o q gN 0 = some 1 := by
    unfold L_X4_holdsTheSameAs_33
    refine Exists.elim (loop_k1 (F := fun x => B_X4_holdsTheSameAs_33 σ o q x) 16 (fun _ => True) (fun c => c = 1) (fun k hk _ => ?_) (fu := gN) (gN_gt (by decide)) trivial) (fun c hc => by obtain ⟨w, rfl⟩ := hc; exact w)
    unfold B_X4_holdsTheSameAs_33
    by_cases e : k = 16
    · subst e
      exact Or.inr ⟨1, if_pos (by decide), rfl⟩
    · have hk' : k < 16 := by omega
      rw [if_neg (show ¬ 16 ≤ nI k by rw [show (16 : Int32) = nI 16 from rfl, nI_lei (by decide) (by omega)]; omega), ldo2 ho hk', Option.bind_some, ldo2 hq hk', Option.bind_some, h1.2 k hk', h2.2 k hk', if_pos rfl, l_1, nI_add]
      exact Or.inl ⟨rfl, hk', trivial⟩
  refine Exists.elim (loop_k1 (F := fun x => B_X4_holdsTheSameAs_2 σ o q x) 8 (fun _ => True) (fun c => c = 1) (fun k hk _ => ?_) (fu := gN) (gN_gt (by decide)) trivial) (fun c hc => by obtain ⟨w, rfl⟩ := hc; exact w)
  unfold B_X4_holdsTheSameAs_2
  by_cases e : k = 8
  · subst e
    rw [if_pos (show 8 ≤ nI 8 by decide), e2]
    exact Or.inr ⟨1, rfl, rfl⟩
  · have hk' : k < 8 := by omega
    rw [if_neg (show ¬ 8 ≤ nI k by rw [l_8, nI_lei (by decide) (by omega)]; omega), ldo1 ho hk', Option.bind_some, ldo1 hq hk', Option.bind_some, h1.1 k hk', h2.1 k hk', if_pos rfl, l_1, nI_add]
    exact Or.inl ⟨rfl, hk', trivial⟩
theorem l24 : (24 : Int32) = nI 24 := Eq.trans rfl rfl
theorem x9_cp26 (p : Int32) : ∃ τ, L_X9_compare_26 p gN (0, σ) = (f_X9_execute τ p).bind (fun q => L_X9_compare_61 q.1 gN (0, q.2)) ∧ (∀ k, k < 24 → τ 732 k = σ 731 k) ∧ ∀ r, r ≠ 732 → τ r = σ r := by
  unfold L_X9_compare_26
  obtain ⟨⟨x, τ⟩, fu', ⟨h1, h2, h3⟩, h4⟩ := loop_to (f := fun a => B_X9_compare_26 p a.1 a.2) 24 (fun k a => a.1 = nI k ∧ (∀ j, j < k → a.2 732 j = σ 731 j) ∧ ∀ r, r ≠ 732 → a.2 r = σ r) (fun k a hk hR => by
    obtain ⟨r1, r2, r3⟩ := hR
    refine ⟨(nI (k + 1), up a.2 732 k (σ 731 k)), ?_, rfl, fun j hj => ?_, fun r hr => by rw [← r3 r hr]; exact up_r hr⟩
    · show B_X9_compare_26 p a.1 a.2 = _
      rw [r1]
      unfold B_X9_compare_26
      rw [if_neg (show ¬ 24 ≤ nI k by rw [l24, nI_lei (by decide) (by omega)]; omega), ld_731 hk, Option.bind_some, st_732 hk, Option.bind_some, l_1, nI_add, r3 731 (by decide)]
    · show up a.2 732 k (σ 731 k) 732 j = _
      by_cases e : j = k
      · rw [e, up_same]
      · rw [up_k e]; exact r2 j (by omega)) (a := ((0 : Int32), σ)) ⟨rfl, fun j hj => absurd hj (Nat.not_lt_zero j), fun _ _ => rfl⟩ (gN_gt (show 24 < 100000 by decide))
  refine ⟨τ, ?_, h2, h3⟩
  rw [h4]
  refine loop_fin ?_
  show B_X9_compare_26 p x τ = _
  have h1' : x = nI 24 := h1
  rw [h1']
  unfold B_X9_compare_26
  rw [if_pos (show 24 ≤ nI 24 by decide), Option.bind_assoc]
theorem x9_cp61 (x2 : Int32) : ∃ τ, L_X9_compare_61 x2 gN (0, σ) = (if x2 = 0 then J_X9_compare_121 x2 τ else (f_X9_executeBundles τ (τ 157 29 + 1)).bind (fun q => if q.1 = 0 then J_X9_compare_121 x2 q.2 else J_X9_compare_122 x2 1 q.2)) ∧ (∀ k, k < 24 → τ 733 k = σ 731 k ∧ τ 731 k = σ 732 k) ∧ ∀ r, r ≠ 731 → r ≠ 733 → τ r = σ r := by
  unfold L_X9_compare_61
  obtain ⟨⟨x, τ⟩, fu', ⟨h1, h2, h2', h3⟩, h4⟩ := loop_to (f := fun a => B_X9_compare_61 x2 a.1 a.2) 24 (fun k a => a.1 = nI k ∧ (∀ j, j < k → a.2 733 j = σ 731 j ∧ a.2 731 j = σ 732 j) ∧ (∀ j, k ≤ j → a.2 731 j = σ 731 j) ∧ ∀ r, r ≠ 731 → r ≠ 733 → a.2 r = σ r) (fun k a hk hR => by
    obtain ⟨r1, r2, r4, r3⟩ := hR
    refine ⟨(nI (k + 1), up (up a.2 733 k (σ 731 k)) 731 k (σ 732 k)), ?_, rfl, fun j hj => ?_, fun j hj => ?_, fun r q1 q2 => ?_⟩
    · show B_X9_compare_61 x2 a.1 a.2 = _
      rw [r1]
      unfold B_X9_compare_61
      rw [if_neg (show ¬ 24 ≤ nI k by rw [l24, nI_lei (by decide) (by omega)]; omega), ld_731 hk, Option.bind_some, st_733 hk, Option.bind_some, ld_732 hk, Option.bind_some, up_r (show 732 ≠ 733 by decide), st_731 hk, Option.bind_some, l_1, nI_add, r3 732 (by decide) (by decide), r4 k (Nat.le_refl k)]
    · show up (up a.2 733 k (σ 731 k)) 731 k (σ 732 k) 733 j = _ ∧ up (up a.2 733 k (σ 731 k)) 731 k (σ 732 k) 731 j = _
      by_cases e : j = k
      · rw [e, up_same, up_r (by decide), up_same]
        exact ⟨rfl, rfl⟩
      · rw [up_r (by decide), up_k e, up_k e, up_r (by decide)]
        exact r2 j (by omega)
    · show up (up a.2 733 k (σ 731 k)) 731 k (σ 732 k) 731 j = _
      rw [up_k (by omega), up_r (by decide)]
      exact r4 j (by omega)
    · show up (up a.2 733 k (σ 731 k)) 731 k (σ 732 k) r = _
      rw [up_r q1, up_r q2]; exact r3 r q1 q2) (a := ((0 : Int32), σ)) ⟨rfl, fun j hj => absurd hj (Nat.not_lt_zero j), fun _ _ => rfl, fun _ _ _ => rfl⟩ (gN_gt (show 24 < 100000 by decide))
  refine ⟨τ, ?_, h2, h3⟩
  rw [h4]
  refine loop_fin ?_
  show B_X9_compare_61 x2 x τ = _
  have h1' : x = nI 24 := h1
  rw [h1']
  unfold B_X9_compare_61
  rw [if_pos (show 24 ≤ nI 24 by decide)]
  by_cases c : x2 = 0
  · rw [if_pos c, if_pos c]
  · rw [if_neg c, if_neg c]
    cases f_X9_executeBundles τ (τ 157 29 + 1) with
    | none => rfl
    | some q =>
      rw [Option.bind_some, Option.bind_some]
      by_cases d : q.1 = 0
      · rw [if_pos d, if_pos d]
      · rw [if_neg d, if_neg d]
theorem x9_cp126 (x2 : Int32) (c : Prop) : ∃ τ, L_X9_compare_126 x2 gN (tf c, 0, σ) = some (if x2 = 0 then -7 else tf (c ∧ ∀ k, k < 24 → σ 733 k = σ 731 k), τ) ∧ (∀ k, k < 24 → τ 731 k = σ 732 k) ∧ ∀ r, r ≠ 731 → τ r = σ r := by
  unfold L_X9_compare_126
  refine Exists.elim (loop_c3 (F := fun x y τ => B_X9_compare_126 x2 x y τ) 24 (fun k x y τ => x = tf (c ∧ ∀ j, j < k → σ 733 j = σ 731 j) ∧ y = nI k ∧ (∀ j, j < k → τ 731 j = σ 732 j) ∧ (∀ j, k ≤ j → τ 731 j = σ 731 j) ∧ ∀ r, r ≠ 731 → τ r = σ r) (fun z => z.1 = (if x2 = 0 then -7 else tf (c ∧ ∀ k, k < 24 → σ 733 k = σ 731 k)) ∧ (∀ k, k < 24 → z.2 731 k = σ 732 k) ∧ ∀ r, r ≠ 731 → z.2 r = σ r) (fun k x y τ hk hR => ?_) (fu := gN) (gN_gt (by decide)) (a := tf c) (b := 0) (c := σ) ⟨tf_c ⟨fun q => ⟨q, fun j hj => absurd hj (Nat.not_lt_zero j)⟩, fun q => q.1⟩, rfl, fun j hj => absurd hj (Nat.not_lt_zero j), fun _ _ => rfl, fun _ _ => rfl⟩) (fun z hz => ⟨z.2, by rw [← hz.2.1]; exact hz.1, hz.2.2⟩)
  obtain ⟨rfl, rfl, r1, r2, r3⟩ := hR
  unfold B_X9_compare_126 J_X9_compare_159
  by_cases e : k = 24
  · subst e
    rw [if_pos (show 24 ≤ nI 24 by decide)]
    by_cases d : x2 = 0
    · rw [if_pos d, if_pos d]
      exact Or.inr ⟨_, rfl, rfl, r1, r3⟩
    · rw [if_neg d, if_neg d, if_tf]
      by_cases w : c ∧ ∀ j, j < 24 → σ 733 j = σ 731 j
      · rw [cif_t w, tf_t w]
        exact Or.inr ⟨_, rfl, rfl, r1, r3⟩
      · rw [cif_f w, tf_f w]
        exact Or.inr ⟨_, rfl, rfl, r1, r3⟩
  have hk' : k < 24 := by omega
  have hadd : nI k + (1 : Int32) = nI (k + 1) := by rw [l_1, nI_add]
  have nx : ∀ d : Prop, (d ↔ σ 733 k = σ 731 k) → tf (c ∧ ∀ j, j < k → σ 733 j = σ 731 j) &&& tf d = tf (c ∧ ∀ j, j < k + 1 → σ 733 j = σ 731 j) := fun d hd => by
    rw [tf_and]
    refine tf_c ⟨fun q => ⟨q.1.1, fun j hj => ?_⟩, fun q => ⟨⟨q.1, fun j hj => q.2 j (by omega)⟩, hd.mpr (q.2 k (Nat.lt_succ_self k))⟩⟩
    by_cases ej : j = k
    · rw [ej]; exact hd.mp q.2
    · exact q.1.2 j (by omega)
  have hfin : ∀ j, j < k + 1 → up τ 731 k (σ 732 k) 731 j = σ 732 j := fun j hj => by
    by_cases ej : j = k
    · rw [ej, up_same]
    · rw [up_k ej]; exact r1 j (by omega)
  rw [if_neg (show ¬ 24 ≤ nI k by rw [l24, nI_lei (by decide) (by omega)]; omega), ld_733 hk', Option.bind_some, ld_731 hk', Option.bind_some, ld_732 hk', Option.bind_some, st_731 hk', Option.bind_some, r3 733 (by decide), r3 732 (by decide), r2 k (Nat.le_refl k)]
  refine Or.inl ?_
  by_cases w : σ 733 k = σ 731 k
  · rw [if_pos w, hadd]
    exact ⟨_, _, _, rfl, hk', by rw [← nx True ⟨fun _ => w, fun _ => trivial⟩, tf_true]; rfl, rfl, hfin, fun j hj => by rw [up_k (by omega)]; exact r2 j (by omega), fun r hr => by rw [up_r hr]; exact r3 r hr⟩
  · rw [if_neg w, Option.bind_some, st_731 hk', Option.bind_some, hadd]
    exact ⟨_, _, _, rfl, hk', by rw [← nx False ⟨False.elim, fun q => absurd q w⟩, tf_false]; rfl, rfl, hfin, fun j hj => by rw [up_k (by omega)]; exact r2 j (by omega), fun r hr => by rw [up_r hr]; exact r3 r hr⟩
def cmD (r k : Nat) : Prop := (149 ≤ r ∧ r ≤ 150) ∨ (152 ≤ r ∧ r ≤ 153) ∨ r = 155 ∨ r = 156 ∨ (r = 157 ∧ (k = 7 ∨ k = 29 ∨ k = 33)) ∨ r = 611 ∨ r = 612 ∨ (731 ≤ r ∧ r ≤ 736)
theorem cm_ok (hp : iProg σ P n) (hb : iBlk σ P n) (hm : iMach σ) (hf : iFlg σ z) (hz : z → cmpl P n ∧ iPk σ P n) (x : Int32) : ∃ (v : Int32) (σ1 σ2 : sg), f_X8_compare σ x = some (v, σ1) ∧ f_X9_compare σ1 x = some (v, σ2) ∧ iMach σ2 ∧ ∀ r k, ¬ cmD r k → σ2 r k = σ r k := by
  obtain ⟨hI, hM, hV, hn1, hn9, hn40⟩ := id hp
  unfold f_X8_compare f_X9_compare
  have ex : ∀ υ : sg, f_X9_isBetween υ x 0 300 = some (tf (0 ≤ x.toInt ∧ x.toInt < (301 : Nat))) := fun υ => by
    rw [x9_btwt, l_0, l_300, nI_toInt (by decide), nI_toInt (by decide)]
    exact congrArg some (tf_c (by omega))
  by_cases x0 : x.toInt < 0
  · exact ⟨-2, σ, σ, if_pos (show x < 0 by rw [l_0, ltT (by decide)]; exact x0), by rw [ex, Option.bind_some, if_tf, cif_f (by omega)], hm, fun _ _ _ => rfl⟩
  rw [if_neg (show ¬ x < 0 by rw [l_0, ltT (by decide)]; exact x0)]
  by_cases x1 : x.toInt ≤ (300 : Nat)
  · rw [if_pos (show x ≤ 300 by rw [l_300, leT (by decide)]; exact x1)]
    obtain ⟨m, hm3, rfl⟩ := nI_rg (x := x) (n := 301) ⟨by omega, by omega⟩
    by_cases hz0 : ¬ z
    · exact ⟨-5, σ, σ, by rw [if_pos (show σ 75 12 = 0 by rw [hf.1, tf_0]; exact hz0)], by rw [ex, Option.bind_some, if_tf, cif_t (by omega), if_pos (show σ 157 16 = 0 by rw [hf.2, tf_0]; exact hz0)], hm, fun _ _ _ => rfl⟩
    obtain ⟨hc, hk⟩ := hz (Classical.not_not.mp hz0)
    obtain ⟨G, g1, g2, g3, g4⟩ := pk_runs hp hb hc hk
    rw [if_neg (show ¬ σ 75 12 = 0 by rw [hf.1, tf_0]; exact hz0)]
    -- the class
    have o145 : oMa 145 := Or.inl rfl
    have o148 : oMa 148 := Or.inr (Or.inl rfl)
    have o151 : oMa 151 := Or.inr (Or.inr rfl)
    have hm0 : mS σ 145 (σ 731) := hm
    obtain ⟨σa, a1, a2, a3⟩ := x4_copy o148 o145 (by decide) hm0
    obtain ⟨σb, k, e1, e2, e3, e4⟩ := x8_exec (o := 148) (s := σ 731) (rI_fr hI (fun r q1 q2 => a3 r (by omega) (by omega))) hV (by rw [a3 1 (by decide) (by decide)]; exact hn1) hn40 hc o148 a2 (m := m) (by omega)
    have frb : ∀ r, r ≠ 149 → r ≠ 150 → σb r = σ r := fun r q1 q2 => by rw [e4 r q1 q2, a3 r q1 q2]
    rw [a1, Option.bind_some, e1, Option.bind_some]
    -- the reference, run from σ1
    have ref : ∀ σ1 : sg, (∀ r, 157 ≤ r → σ1 r = σ r) → ∃ σ2, f_X9_compare σ1 (nI m) = some (cif ((exN P n (0, σ 731) k).1 < n) (mI 7) (nI 1), σ2) ∧ (∀ j, j < 24 → σ2 731 j = σ 731 j) ∧ (∀ r, r ≠ 157 → r ≠ 611 → r ≠ 612 → ¬ (731 ≤ r ∧ r ≤ 736) → σ2 r = σ1 r) ∧ ∀ j, j ≠ 7 → j ≠ 29 → j ≠ 33 → σ2 157 j = σ 157 j := by
      intro σ1 h1
      obtain ⟨τ, t1, t2, t3⟩ := x9_cp26 (σ := σ1) (nI m)
      obtain ⟨τb, k', d1, d2, d3, d4, d5, d6⟩ := x9_exec (σ := τ) (s := σ 731) (rM_fr hM (fun r q1 q2 => by rw [t3 r (by omega), h1 r (by omega)])) hV (by rw [t3 157 (by decide), h1 157 (by decide)]; exact hn9) hn40 hc (fun j hj => by rw [t3 731 (by decide), h1 731 (by decide)]) (m := m) (by omega)
      have ek := exE_u d3 e2
      subst ek
      obtain ⟨τc, c1, c2, c3⟩ := x9_cp61 (σ := τb) (tf (¬ (exN P n (0, σ 731) k').1 < n))
      have back : ∀ j, j < 24 → τc 731 j = σ 731 j := fun j hj => by rw [(c2 j hj).2, d5 732 (by decide) (by decide), t2 j hj, h1 731 (by decide)]
      have c732 : ∀ j, j < 24 → τc 732 j = σ 731 j := fun j hj => by rw [c3 732 (by decide) (by decide), d5 732 (by decide) (by decide), t2 j hj, h1 731 (by decide)]
      have c733 : ∀ j, j < 24 → τc 733 j = (exN P n (0, σ 731) k').2 j := fun j hj => by rw [(c2 j hj).1, d4 j hj]
      have c157 : ∀ j, j ≠ 29 → τc 157 j = σ 157 j := fun j hj => by rw [c3 157 (by decide) (by decide), d6 j hj, t3 157 (by decide), h1 157 (by decide)]
      have cfr : ∀ r, r ≠ 157 → r ≠ 731 → r ≠ 732 → r ≠ 733 → τc r = σ1 r := fun r q1 q2 q3 q4 => by rw [c3 r q2 q4, d5 r q1 q2, t3 r q3]
      have c29 : τc 157 29 = nI k' := by rw [c3 157 (by decide) (by decide)]; exact d2
      unfold f_X9_compare
      rw [ex, Option.bind_some, if_tf, cif_t (by omega), h1 157 (by decide), if_neg (show ¬ σ 157 16 = 0 by rw [hf.2, tf_0]; exact hz0), t1, d1, Option.bind_some]
      show ∃ σ2, L_X9_compare_61 (tf (¬ (exN P n (0, σ 731) k').1 < n)) gN (0, τb) = _ ∧ _
      rw [c1]
      by_cases c : (exN P n (0, σ 731) k').1 < n
      · rw [tf_f (fun q => q c), if_pos (show nI 0 = 0 from rfl), cif_t c]
        unfold J_X9_compare_121 J_X9_compare_122
        obtain ⟨υ, w1, w2, w3⟩ := x9_cp126 (σ := τc) (nI 0) False
        rw [tf_false, if_pos (show nI 0 = 0 from rfl)] at w1
        refine ⟨υ, w1, fun j hj => by rw [w2 j hj, c732 j hj], fun r q1 q2 q3 q4 => by rw [w3 r (by omega), cfr r q1 (by omega) (by omega) (by omega)], fun j q1 q2 q3 => by rw [w3 157 (by decide)]; exact c157 j q2⟩
      · rw [tf_t c, if_neg (show ¬ nI 1 = 0 by decide), cif_f c, c29, l_1, nI_add]
        obtain ⟨j, j1, j2, j3, j4⟩ := bx_end (G := G) hc e2 c
        have hkm : k' ≤ m := e2.1
        obtain ⟨τd, k2, f1, f2, f3, f4, f5, f6⟩ := x9_pkrun (σ := τc) (s := σ 731) (G := G) (rM_fr hM (fun r q1 q2 => by rw [cfr r (by omega) (by omega) (by omega) (by omega), h1 r (by omega)])) (by rw [c157 0 (by decide)]; exact hn9) (fun i hi => by rw [cfr (687 + i) (by omega) (by omega) (by omega) (by omega), h1 (687 + i) (by omega)]; exact g2 i hi) hV hn40 hc g3 g4 back (m := k' + 1) (by omega)
        have ej : k2 = j := bxE_u f3 ⟨by omega, j2, Or.inr j3⟩
        subst ej
        rw [f1, Option.bind_some, if_tf]
        show ∃ σ2, cif (¬ (bxN P n G (σ 731) k2).1 < n) (J_X9_compare_122 (nI 1) (nI 1) τd) (J_X9_compare_121 (nI 1) τd) = _ ∧ _
        rw [cif_t j3]
        unfold J_X9_compare_122
        obtain ⟨υ, w1, w2, w3⟩ := x9_cp126 (σ := τd) (nI 1) True
        have hsame : True ∧ ∀ k, k < 24 → τd 733 k = τd 731 k := ⟨trivial, fun q hq => by rw [f5 733 (by decide) (by decide) (by decide) (by decide) (by decide) (by decide) (by decide), c733 q hq, f4 q hq, j4]⟩
        rw [tf_true, if_neg (show ¬ nI 1 = 0 by decide), tf_t hsame] at w1
        refine ⟨υ, w1, fun q hq => by rw [w2 q hq, f5 732 (by decide) (by decide) (by decide) (by decide) (by decide) (by decide) (by decide), c732 q hq], fun r q1 q2 q3 q4 => by rw [w3 r (by omega), f5 r q1 q2 q3 (by omega) (by omega) (by omega) (by omega), cfr r q1 (by omega) (by omega) (by omega)], fun q q1 q2 q3 => by rw [w3 157 (by decide), f6 q q1 q3]; exact c157 q q2⟩
    have fin : ∀ σ1 : sg, (∀ r, 157 ≤ r → σ1 r = σ r) → (∀ r, r < 157 → ¬ (149 ≤ r ∧ r ≤ 150) → ¬ (152 ≤ r ∧ r ≤ 153) → r ≠ 155 → r ≠ 156 → σ1 r = σ r) → ∃ σ2, f_X9_compare σ1 (nI m) = some (cif ((exN P n (0, σ 731) k).1 < n) (mI 7) (nI 1), σ2) ∧ iMach σ2 ∧ ∀ r k, ¬ cmD r k → σ2 r k = σ r k := by
      intro σ1 h1 h2
      obtain ⟨σ2, w1, w2, w3, w4⟩ := ref σ1 h1
      have lo : ∀ r, r < 157 → σ2 r = σ1 r := fun r hr => w3 r (by omega) (by omega) (by omega) (by omega)
      refine ⟨σ2, w1, ⟨fun j hj => ?_, fun j hj => ?_⟩, fun r j h => ?_⟩
      · rw [lo 146 (by decide), h2 146 (by decide) (by omega) (by omega) (by decide) (by decide), w2 j (by omega)]; exact hm.1 j hj
      · rw [lo 147 (by decide), h2 147 (by decide) (by omega) (by omega) (by decide) (by decide), w2 (8 + j) (by omega)]; exact hm.2 j hj
      · unfold cmD at h
        by_cases er : r = 157
        · subst er
          exact w4 j (by omega) (by omega) (by omega)
        · by_cases c : r < 157
          · rw [lo r c, h2 r c (by omega) (by omega) (by omega) (by omega)]
          · rw [w3 r er (by omega) (by omega) (by omega), h1 r (by omega)]
    have unf : ∀ σ1 : sg, f_X9_compare σ1 (nI m) = ((f_X9_isBetween σ1 (nI m) (0 : Int32) (300 : Int32)).bind fun v5 => if v5 = 0 then some ((-2 : Int32), σ1) else (if (σ1 157 16) = 0 then some ((-5 : Int32), σ1) else L_X9_compare_26 (nI m) gN ((0 : Int32), σ1))) := fun σ1 => rfl
    by_cases c : (exN P n (0, σ 731) k).1 < n
    · obtain ⟨σ2, w1, w2, w3⟩ := fin σb (fun r hr => frb r (by omega) (by omega)) (fun r q1 q2 q3 q4 q5 => frb r (by omega) (by omega))
      rw [cif_t c] at w1 ⊢
      refine ⟨-7, σb, σ2, if_pos rfl, ?_, w2, w3⟩
      rw [unf] at w1
      exact w1
    · rw [cif_f c]
      show ∃ (v : Int32) (σ1 σ2 : sg), (if nI k = (-7 : Int32) then some ((-7 : Int32), σb) else _) = some (v, σ1) ∧ _
      have hkm : k ≤ m := e2.1
      rw [if_neg (show ¬ nI k = (-7 : Int32) from mI_ne (by decide) (by decide) (by omega))]
      obtain ⟨σc, b1, b2, b3⟩ := x4_copy (σ := σb) o151 o145 (by decide) (s := σ 731) ⟨fun j hj => by rw [frb 146 (by decide) (by decide)]; exact hm.1 j hj, fun j hj => by rw [frb 147 (by decide) (by decide)]; exact hm.2 j hj⟩
      have frc : ∀ r, r ≠ 149 → r ≠ 150 → r ≠ 152 → r ≠ 153 → σc r = σ r := fun r q1 q2 q3 q4 => by rw [b3 r q3 q4, frb r q1 q2]
      obtain ⟨j, j1, j2, j3, j4⟩ := bx_end (G := G) hc e2 c
      obtain ⟨σd, k2, f1, f2, f3, f4⟩ := x8_pkrun (σ := σc) (o := 151) (s := σ 731) (rnI_fr g1 (fun r hr => frc r (by omega) (by omega) (by omega) (by omega))) hV hn40 hc g3 g4 o151 b2 (m := 300) (by decide)
      have ej : k2 = j := bxE_u f2 ⟨by omega, j2, Or.inr j3⟩
      subst ej
      have hsum := (bxN_le (P := P) (G := G) (s := σ 731) hc g3 k2).2
      obtain ⟨σ2, w1, w2, w3⟩ := fin σd (fun r hr => by rw [f4 r (by omega) (by omega) (by omega) (by omega), frc r (by omega) (by omega) (by omega) (by omega)]) (fun r q1 q2 q3 q4 q5 => by rw [f4 r (by omega) (by omega) q4 q5, frc r (by omega) (by omega) (by omega) (by omega)])
      rw [cif_f c] at w1
      refine ⟨nI 1, σd, σ2, ?_, ?_, w2, w3⟩
      · show (f_X4_copyFrom σb 151 145).bind _ = _
        rw [b1, Option.bind_some, l_300, f1, cif_f j3, Option.bind_some]
        show (if nI (bxN P n G (σ 731) k2).2.2 = (-7 : Int32) then J_X8_compare_87 0 σd else J_X8_compare_87 1 σd) = _
        rw [if_neg (show ¬ nI (bxN P n G (σ 731) k2).2.2 = (-7 : Int32) from mI_ne (by decide) (by decide) (by omega))]
        unfold J_X8_compare_87
        have hmp : mS σd 148 (exN P n (0, σ 731) k).2 := ⟨fun q hq => by rw [f4 (148 + 1) (by decide) (by decide) (by decide) (by decide), b3 (148 + 1) (by decide) (by decide)]; exact e3.1 q hq, fun q hq => by rw [f4 (148 + 2) (by decide) (by decide) (by decide) (by decide), b3 (148 + 2) (by decide) (by decide)]; exact e3.2 q hq⟩
        rw [j4] at f3
        rw [if_neg (show ¬ (1 : Int32) = 0 by decide), x4_same o151 o148 f3 hmp, Option.bind_some, if_neg (show ¬ (1 : Int32) = 0 by decide)]
        rfl
      · rw [unf] at w1
        exact w1
  · exact ⟨-2, σ, σ, if_neg (show ¬ x ≤ 300 by rw [l_300, leT (by decide)]; exact x1), by rw [ex, Option.bind_some, if_tf, cif_f (by omega)], hm, fun _ _ _ => rfl⟩
end
